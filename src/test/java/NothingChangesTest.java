import java.util.function.Consumer;

/** "A method that throws an exception changes nothing", for each call that throws. */
public final class NothingChangesTest {
    private static final Due due = new Due();
    private static final int HOUSES = 6;
    private static final int COINS = 9;
    private static final int BILLS = 3;

    public static void main(String[] args) {
        houses();
        claims();
        bills();
        due.end();
    }

    /** The bank 4 failed; coins of both metals, claims, bills of each state and shares stand. */
    private static Harbourmint full() {
        Harbourmint x = States.minted(2, 'g', 6);
        x.addHouse('b');
        x.addHouse('b');
        x.addShare(1, 4, 3);
        x.addShare(0, 2, 7);
        x.draw(2, 3, 9, 1);
        x.draw(2, 3, 9, 9);
        x.draw(4, 3, 9, 9);
        x.nextDay();
        States.breakBank(x, 4, 3);
        x.dig(2, 'g', 8);
        x.dig(3, 's', 15);
        x.mint(3, 's', 2);
        x.decree('s', 1, 9);
        x.recoin(3, 's');
        x.decree('s', 1, 5);
        x.hoard(5, true);
        x.deposit(2, 1, 'g', 2);
        x.lend(1, 3, 50);
        return x;
    }

    private static void houses() {
        same("addHouse", x -> x.addHouse('b'));
        same("addHouse of no kind", x -> x.addHouse('x'));
        same("dig", x -> x.dig(2, 'g', 100));
        same("dig of one that failed", x -> x.dig(4, 'g', 9));
        same("decree a face", x -> x.decree('g', 100, 9));
        same("decree a weight", x -> x.decree('g', 9, 10));
        same("mint of too little ore", x -> x.mint(2, 'g', 2));
        same("mint too many", x -> x.mint(2, 'g', 89));
        same("clip", x -> x.clip(0, 5));
        same("clip what was melted", x -> x.clip(6, 1));
        same("hoard what was melted", x -> x.hoard(6, true));
        same("recoin", x -> x.recoin(4, 'g'));
        same("recoin 'x'", x -> x.recoin(2, 'x'));
        same("pay more than there is", x -> x.pay(2, 3, 'g', 4));
        same("pay one that failed", x -> x.pay(2, 4, 'g', 1));
    }

    private static void claims() {
        same("deposit more than there is", x -> x.deposit(2, 1, 'g', 4));
        same("deposit at one that failed", x -> x.deposit(2, 4, 'g', 1));
        same("withdraw more than the claim", x -> x.withdraw(2, 1, 'g', 3));
        same("withdraw at one that failed", x -> x.withdraw(3, 4, 'g', 1));
        same("lend to one that failed", x -> x.lend(1, 4, 5));
        same("lend of a trader", x -> x.lend(2, 3, 5));
        same("hand more than the claim", x -> x.hand(2, 3, 1, 21));
        same("hand to one that failed", x -> x.hand(2, 4, 1, 5));
        same("forgive more than the claim", x -> x.forgive(1, 3, 51));
        same("forgive 0", x -> x.forgive(1, 3, 0));
    }

    private static void bills() {
        same("draw on one that failed", x -> x.draw(2, 4, 5, 5));
        same("draw for 10 days", x -> x.draw(2, 3, 5, 10));
        same("endorse what came due", x -> x.endorse(0, 3));
        same("endorse to the holder", x -> x.endorse(1, 2));
        same("endorse to one that failed", x -> x.endorse(1, 4));
        same("endorse of one that failed", x -> x.endorse(2, 3));
        same("addShare of too much", x -> x.addShare(0, 2, 100));
        same("addShare of one that failed", x -> x.addShare(0, 4, 5));
        same("throwOver without a share", x -> x.throwOver(0, 3, 5));
        same("throwOver beside one that failed", x -> x.throwOver(1, 2, 5));
    }

    /** Each call has an object of its own, which stays far below 512 calls so. */
    private static void same(String call, Consumer<Harbourmint> doing) {
        Harbourmint x = full();
        String before = States.asked(x, HOUSES, COINS, BILLS);
        due.is(call + " throws", throwsAtAll(x, doing), true);
        due.is("all that is asked after " + call, States.asked(x, HOUSES, COINS, BILLS), before);
        due.is("decree of gold after " + call, x.decree('g', 10, 5), 1005);
        due.is("the next coin after " + call, x.mint(2, 'g', 1), COINS);
        due.is("the next bill after " + call, x.draw(2, 3, 1, 1), BILLS);
        due.is("shares after " + call, x.addShare(0, 2, 1), 8);
        due.is("a hoarded one after " + call, x.hoard(5, true), true);
        due.is("one not hoarded after " + call, x.hoard(4, true), false);
    }

    private static boolean throwsAtAll(Harbourmint x, Consumer<Harbourmint> doing) {
        try {
            doing.accept(x);
            return false;
        } catch (RuntimeException e) {
            return true;
        }
    }
}
