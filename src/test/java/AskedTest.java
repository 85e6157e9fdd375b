/** Promises 23 to 29: coins, weightOf, ownerOf, owners, ore, wealth, lost. */
public final class AskedTest {
    private static final Due due = new Due();

    public static void main(String[] args) {
        coins();
        oneCoin();
        ore();
        wealth();
        lost();
        due.end();
    }

    private static void coins() {
        Harbourmint x = States.minted(2, 'g', 5);
        x.hoard(4, true);
        x.pay(2, 3, 'g', 2);
        due.is("coins(2, 'g'), one hoarded", x.coins(2, 'g'), 3);
        due.is("coins(3, 'g')", x.coins(3, 'g'), 2);
        due.is("coins(2, 's')", x.coins(2, 's'), 0);
        x.decree('g', 10, 9);
        x.recoin(2, 'g');
        due.is("a hoarded one and a new one", x.coins(2, 'g'), 2);
        due.isThrown(Wrong.INDEX, "coins(4)", () -> x.coins(4, 'x'));
        due.isThrown(Wrong.INDEX, "coins(-1)", () -> x.coins(-1, 'g'));
        due.isThrown(Wrong.ARGUMENT, "coins 'x'", () -> x.coins(2, 'x'));
        due.isThrown(Wrong.ARGUMENT, "coins 'G'", () -> x.coins(2, 'G'));
        States.breakBank(x, 1, 3);
        due.is("coins of one that failed", x.coins(1, 'g'), 0);
    }

    private static void oneCoin() {
        Harbourmint x = States.minted(2, 's', 3);
        x.clip(0, 2);
        due.is("weightOf(0)", x.weightOf(0), 3);
        due.is("weightOf(1)", x.weightOf(1), 5);
        due.is("ownerOf(0)", x.ownerOf(0), 2);
        due.is("owners(0)", x.owners(0), 1);
        x.pay(2, 3, 's', 1);
        x.pay(3, 2, 's', 1);
        due.is("ownerOf(0)", x.ownerOf(0), 2);
        due.is("owners(0)", x.owners(0), 3);
        due.is("owners(1)", x.owners(1), 1);
        x.recoin(2, 's');
        due.is("weightOf what was melted", x.weightOf(0), 0);
        due.is("ownerOf what was melted", x.ownerOf(0), -1);
        due.is("owners that it had", x.owners(0), 3);
        for (int coin : new int[] {-1, 6, 90, Integer.MAX_VALUE, Integer.MIN_VALUE}) {
            due.isThrown(Wrong.INDEX, "weightOf(" + coin + ")", () -> x.weightOf(coin));
            due.isThrown(Wrong.INDEX, "ownerOf(" + coin + ")", () -> x.ownerOf(coin));
            due.isThrown(Wrong.INDEX, "owners(" + coin + ")", () -> x.owners(coin));
        }
        due.is("the last new one", x.weightOf(5), 5);
    }

    private static void ore() {
        Harbourmint x = States.harbour();
        x.dig(2, 'g', 12);
        x.dig(2, 's', 3);
        x.mint(2, 'g', 2);
        due.is("ore(2, 'g')", x.ore(2, 'g'), 2);
        due.is("ore(2, 's')", x.ore(2, 's'), 3);
        due.is("ore(3, 'g')", x.ore(3, 'g'), 0);
        due.isThrown(Wrong.INDEX, "ore(4)", () -> x.ore(4, 'x'));
        due.isThrown(Wrong.INDEX, "ore(-1)", () -> x.ore(-1, 'g'));
        due.isThrown(Wrong.ARGUMENT, "ore 'x'", () -> x.ore(2, 'x'));
    }

    private static void wealth() {
        Harbourmint x = States.minted(2, 'g', 3);
        x.dig(2, 's', 14);
        x.mint(2, 's', 2);
        x.hoard(0, true);
        due.is("faces, ore not counted", x.wealth(2), 32);
        x.decree('g', 99, 5);
        x.decree('s', 2, 5);
        due.is("faces as they are now", x.wealth(2), 301);
        x.draw(3, 2, 400, 1);
        x.lend(1, 2, 6);
        x.nextDay();
        due.is("less the claims on it", x.wealth(2), -99);
        due.is("and the claims", x.wealth(3), 400);
        due.is("a loan is even", x.wealth(1), 0);
        due.isThrown(Wrong.INDEX, "wealth(4)", () -> x.wealth(4));
        due.isThrown(Wrong.INDEX, "wealth(-1)", () -> x.wealth(-1));
    }

    private static void lost() {
        Harbourmint x = States.harbour();
        x.addHouse('b');
        due.is("lost()", x.lost(), 0);
        x.lend(1, 2, 9999);
        x.lend(1, 3, 9999);
        x.withdraw(2, 1, 'g', 1);
        due.is("lost()", x.lost(), 19998);
        x.lend(4, 2, 2);
        x.forgive(2, 4, 1);
        x.withdraw(2, 4, 's', 1);
        due.is("what was forgiven is not lost", x.lost(), 19999);
    }
}
