/** Promises 1 to 10: a new object, addHouse, kindOf, dig, decree, mint, clip, hoard, recoin, pay. */
public final class HousesAndMetalTest {
    private static final Due due = new Due();

    public static void main(String[] args) {
        newObject();
        addHouse();
        kindOf();
        dig();
        decree();
        mint();
        mintWrong();
        clip();
        hoard();
        recoin();
        recoinAtTheLastNumbers();
        recoinWrong();
        pay();
        payWrong();
        due.end();
    }

    private static void newObject() {
        Harbourmint x = new Harbourmint();
        due.is("kindOf(0)", x.kindOf(0), 'c');
        due.isThrown(Wrong.INDEX, "kindOf(1)", () -> x.kindOf(1));
        for (char metal : new char[] {'g', 's'}) {
            due.is("coins(0)", x.coins(0, metal), 0);
            due.is("ore(0)", x.ore(0, metal), 0);
        }
        due.is("decree('g')", x.decree('g', 1, 1), 1005);
        due.is("decree('s')", x.decree('s', 1, 1), 105);
        due.is("wealth(0)", x.wealth(0), 0);
        due.is("lost()", x.lost(), 0);
        due.isThrown(Wrong.INDEX, "weightOf(0)", () -> x.weightOf(0));
        due.isThrown(Wrong.INDEX, "holderOf(0)", () -> x.holderOf(0));
        due.is("nextDay()", x.nextDay(), 0);
        due.is("isSound()", x.isSound(), true);
    }

    private static void addHouse() {
        Harbourmint x = new Harbourmint();
        for (char kind : new char[] {'c', 'x', 'B', 'g', (char) 0, (char) 65535}) {
            due.isThrown(Wrong.ARGUMENT, "addHouse(" + kind + ")", () -> x.addHouse(kind));
        }
        for (int house = 1; house <= 5; house++) {
            due.is("addHouse", x.addHouse(house % 2 == 0 ? 'b' : 't'), house);
        }
        due.isThrown(Wrong.STATE, "a seventh house", () -> x.addHouse('t'));
        due.isThrown(Wrong.STATE, "a seventh house, a bank", () -> x.addHouse('b'));
        due.isThrown(Wrong.ARGUMENT, "a seventh house of no kind", () -> x.addHouse('c'));
        due.isThrown(Wrong.INDEX, "kindOf(6)", () -> x.kindOf(6));
        // A house that failed keeps its number.
        States.breakBank(x, 2, 1);
        due.isThrown(Wrong.STATE, "a house for one that failed", () -> x.addHouse('b'));
    }

    private static void kindOf() {
        Harbourmint x = States.harbour();
        due.is("the crown", x.kindOf(0), 'c');
        due.is("a bank", x.kindOf(1), 'b');
        due.is("a trader", x.kindOf(2), 't');
        due.isThrown(Wrong.INDEX, "kindOf(4)", () -> x.kindOf(4));
        due.isThrown(Wrong.INDEX, "kindOf(-1)", () -> x.kindOf(-1));
        States.breakBank(x, 1, 2);
        due.is("a bank that failed", x.kindOf(1), 'x');
        due.is("its creditor", x.kindOf(2), 't');
    }

    private static void dig() {
        Harbourmint x = States.broken();
        due.is("dig 1", x.dig(2, 'g', 1), 1);
        due.is("dig 99", x.dig(2, 'g', 99), 100);
        due.is("dig silver", x.dig(2, 's', 7), 7);
        due.is("dig of another", x.dig(0, 'g', 3), 3);
        due.is("ore(2, 'g')", x.ore(2, 'g'), 100);
        due.isThrown(Wrong.INDEX, "dig(4)", () -> x.dig(4, 'x', 0));
        due.isThrown(Wrong.INDEX, "dig(-1)", () -> x.dig(-1, 'g', 1));
        due.isThrown(Wrong.ARGUMENT, "dig 'x'", () -> x.dig(2, 'x', 1));
        due.isThrown(Wrong.ARGUMENT, "dig 0", () -> x.dig(2, 'g', 0));
        due.isThrown(Wrong.ARGUMENT, "dig 100", () -> x.dig(2, 'g', 100));
        due.isThrown(Wrong.ARGUMENT, "dig 0 of one that failed", () -> x.dig(1, 'g', 0));
        due.isThrown(Wrong.STATE, "dig of one that failed", () -> x.dig(1, 'g', 1));
    }

    private static void decree() {
        Harbourmint x = States.minted(2, 's', 2);
        due.is("decree", x.decree('s', 99, 9), 105);
        due.is("decree again", x.decree('s', 1, 1), 9909);
        due.is("decree once more", x.decree('s', 4, 6), 101);
        due.is("decree gold", x.decree('g', 7, 3), 1005);
        due.is("the faces as they are now", x.wealth(2), 8);
        due.isThrown(Wrong.ARGUMENT, "decree 'x'", () -> x.decree('x', 1, 1));
        due.isThrown(Wrong.ARGUMENT, "face 0", () -> x.decree('g', 0, 1));
        due.isThrown(Wrong.ARGUMENT, "face 100", () -> x.decree('g', 100, 1));
        due.isThrown(Wrong.ARGUMENT, "weight 0", () -> x.decree('g', 1, 0));
        due.isThrown(Wrong.ARGUMENT, "weight 10", () -> x.decree('g', 1, 10));
        due.is("what stood before", x.decree('g', 7, 3), 703);
    }

    private static void mint() {
        Harbourmint x = States.harbour();
        x.dig(2, 'g', 22);
        due.is("mint 3", x.mint(2, 'g', 3), 0);
        due.is("ore that is left", x.ore(2, 'g'), 7);
        x.decree('g', 10, 7);
        due.is("mint 1 by the weight as it is now", x.mint(2, 'g', 1), 3);
        due.is("no ore is left", x.ore(2, 'g'), 0);
        due.is("weightOf(0)", x.weightOf(0), 5);
        due.is("weightOf(3)", x.weightOf(3), 7);
        due.is("ownerOf(3)", x.ownerOf(3), 2);
        due.is("owners(3)", x.owners(3), 1);
        due.is("hoarded", x.hoard(3, false), false);
        due.is("coins of gold", x.coins(2, 'g'), 4);
        due.is("coins of silver", x.coins(2, 's'), 0);
        x.dig(0, 's', 5);
        due.is("mint silver of the crown", x.mint(0, 's', 1), 4);
    }

    private static void mintWrong() {
        Harbourmint x = States.broken();
        States.dig(x, 2, 'g', 460);
        due.isThrown(Wrong.INDEX, "mint(4)", () -> x.mint(4, 'x', 0));
        due.isThrown(Wrong.ARGUMENT, "mint 'x'", () -> x.mint(2, 'x', 1));
        due.isThrown(Wrong.ARGUMENT, "mint 0", () -> x.mint(2, 'g', 0));
        due.isThrown(Wrong.ARGUMENT, "mint 91", () -> x.mint(2, 'g', 91));
        due.isThrown(Wrong.ARGUMENT, "mint 0 of one that failed", () -> x.mint(1, 'g', 0));
        due.isThrown(Wrong.STATE, "mint of one that failed", () -> x.mint(1, 'g', 1));
        due.isThrown(Wrong.UNSUPPORTED, "mint of no ore", () -> x.mint(2, 's', 1));
        due.is("mint 60", x.mint(2, 'g', 60), 0);
        due.isThrown(Wrong.UNSUPPORTED, "mint 31 more", () -> x.mint(2, 'g', 31));
        due.is("mint 30 more", x.mint(2, 'g', 30), 60);
        due.isThrown(Wrong.UNSUPPORTED, "a 91st coin", () -> x.mint(2, 'g', 1));
        due.is("ore", x.ore(2, 'g'), 10);
        x.dig(2, 's', 9);
        due.isThrown(Wrong.UNSUPPORTED, "ore of 9 for 2", () -> x.mint(2, 's', 2));
    }

    private static void clip() {
        Harbourmint x = States.minted(2, 's', 2);
        due.is("clip 1", x.clip(1, 1), 4);
        due.is("ore of its owner", x.ore(2, 's'), 1);
        x.pay(2, 3, 's', 1);
        due.is("clip 3", x.clip(1, 3), 1);
        due.is("ore of its new owner", x.ore(3, 's'), 3);
        due.is("weightOf(1)", x.weightOf(1), 1);
        due.isThrown(Wrong.INDEX, "clip(2)", () -> x.clip(2, 0));
        due.isThrown(Wrong.INDEX, "clip(-1)", () -> x.clip(-1, 1));
        due.isThrown(Wrong.ARGUMENT, "clip 0", () -> x.clip(1, 0));
        due.isThrown(Wrong.ARGUMENT, "clip 10", () -> x.clip(1, 10));
        due.isThrown(Wrong.UNSUPPORTED, "clip all", () -> x.clip(1, 1));
        due.isThrown(Wrong.UNSUPPORTED, "clip 5 of 5", () -> x.clip(0, 5));
        due.isThrown(Wrong.UNSUPPORTED, "clip 9 of 5", () -> x.clip(0, 9));
        x.recoin(2, 's');
        due.isThrown(Wrong.UNSUPPORTED, "clip what was melted", () -> x.clip(0, 1));
        due.isThrown(Wrong.ARGUMENT, "clip 10 of what was melted", () -> x.clip(0, 10));
        x.decree('s', 1, 9);
        x.dig(2, 's', 9);
        int heavy = x.mint(2, 's', 1);
        due.is("clip 8 of 9", x.clip(heavy, 8), 1);
    }

    private static void hoard() {
        Harbourmint x = States.minted(2, 'g', 2);
        due.is("hoard", x.hoard(0, true), false);
        due.is("hoard again", x.hoard(0, true), true);
        due.is("hoard no more", x.hoard(0, false), true);
        due.is("hoard no more again", x.hoard(0, false), false);
        due.is("the other one", x.hoard(1, true), false);
        due.is("coins that are hoarded count", x.coins(2, 'g'), 2);
        due.isThrown(Wrong.INDEX, "hoard(2)", () -> x.hoard(2, true));
        due.isThrown(Wrong.INDEX, "hoard(-1)", () -> x.hoard(-1, false));
        x.recoin(2, 'g');
        due.isThrown(Wrong.UNSUPPORTED, "hoard what was melted", () -> x.hoard(0, true));
        due.is("what was hoarded is not melted", x.hoard(1, false), true);
    }

    private static void recoin() {
        Harbourmint x = States.minted(2, 'g', 4);
        x.dig(2, 's', 10);
        x.mint(2, 's', 2);
        x.clip(0, 3);
        x.hoard(1, true);
        x.pay(2, 3, 'g', 1);
        due.is("the lightest one went", x.ownerOf(0), 3);
        x.decree('g', 10, 4);
        // Two of weight 5 and ore of 3 give three of weight 4, and ore of 1 is left.
        due.is("recoin", x.recoin(2, 'g'), 3);
        due.is("ore", x.ore(2, 'g'), 1);
        due.is("the coin of another", x.weightOf(0), 2);
        due.is("the hoarded one", x.weightOf(1), 5);
        due.is("a melted one's weight", x.weightOf(2), 0);
        due.is("a melted one's owner", x.ownerOf(3), -1);
        due.is("a melted one's owners", x.owners(3), 1);
        due.is("the silver", x.weightOf(4), 5);
        due.is("a new one", x.weightOf(6), 4);
        due.is("the last new one", x.ownerOf(8), 2);
        due.is("owners of a new one", x.owners(8), 1);
        due.is("not hoarded", x.hoard(8, false), false);
        due.isThrown(Wrong.INDEX, "no more new ones", () -> x.weightOf(9));
        due.is("recoin without coins", x.recoin(3, 's'), 0);
        x.dig(3, 's', 11);
        due.is("recoin of ore alone", x.recoin(3, 's'), 2);
        x.decree('g', 10, 9);
        due.is("recoin of 13 by 9", x.recoin(2, 'g'), 1);
        due.is("what is left over", x.ore(2, 'g'), 4);
        due.is("isSound()", x.isSound(), true);
    }

    private static void recoinAtTheLastNumbers() {
        Harbourmint x = States.harbour();
        States.dig(x, 0, 'g', 480);
        x.mint(0, 'g', 88);
        due.is("recoin with two numbers left", x.recoin(0, 'g'), 2);
        due.is("ore", x.ore(0, 'g'), 470);
        due.is("recoin with none left", x.recoin(0, 'g'), 0);
        due.is("all is ore", x.ore(0, 'g'), 480);
        due.is("coins", x.coins(0, 'g'), 0);
    }

    private static void recoinWrong() {
        Harbourmint x = States.broken();
        due.isThrown(Wrong.INDEX, "recoin(4)", () -> x.recoin(4, 'x'));
        due.isThrown(Wrong.INDEX, "recoin(-1)", () -> x.recoin(-1, 'g'));
        due.isThrown(Wrong.ARGUMENT, "recoin 'x'", () -> x.recoin(0, 'x'));
        due.isThrown(Wrong.ARGUMENT, "recoin 'x' of one that failed", () -> x.recoin(1, 'x'));
        due.isThrown(Wrong.STATE, "recoin of one that failed", () -> x.recoin(1, 'g'));
    }

    private static void pay() {
        Harbourmint x = States.minted(2, 'g', 5);
        x.dig(2, 's', 5);
        x.mint(2, 's', 1);
        x.clip(5, 4);
        x.clip(4, 1);
        x.clip(2, 1);
        x.clip(3, 3);
        x.hoard(3, true);
        due.is("pay 2", x.pay(2, 3, 'g', 2), 8);
        due.is("the light ones went", x.ownerOf(2) * 10 + x.ownerOf(4), 33);
        due.is("the hoarded one stayed", x.ownerOf(3), 2);
        due.is("the other metal stayed", x.ownerOf(5), 2);
        due.is("pay 1 of equal ones", x.pay(2, 3, 'g', 1), 5);
        due.is("the lowest number went", x.ownerOf(0), 3);
        due.is("the next one stayed", x.ownerOf(1), 2);
        due.is("owners", x.owners(0), 2);
        due.is("pay back", x.pay(3, 2, 'g', 3), 13);
        due.is("owners, one counted twice", x.owners(0), 3);
        due.is("it is back", x.ownerOf(0), 2);
        due.is("pay to the crown", x.pay(2, 0, 'g', 4), 18);
        due.is("no claim comes of it", x.claim(2, 0) + x.claim(0, 2), 0);
    }

    private static void payWrong() {
        Harbourmint x = States.minted(2, 'g', 3);
        States.breakBank(x, 1, 3);
        due.isThrown(Wrong.INDEX, "pay to 4", () -> x.pay(2, 4, 'x', 0));
        due.isThrown(Wrong.INDEX, "pay of -1", () -> x.pay(-1, 2, 'g', 1));
        due.isThrown(Wrong.ARGUMENT, "pay 'x'", () -> x.pay(2, 3, 'x', 1));
        due.isThrown(Wrong.ARGUMENT, "pay 0", () -> x.pay(2, 3, 'g', 0));
        due.isThrown(Wrong.ARGUMENT, "pay 91", () -> x.pay(2, 3, 'g', 91));
        due.isThrown(Wrong.ARGUMENT, "pay oneself", () -> x.pay(2, 2, 'g', 1));
        due.isThrown(Wrong.ARGUMENT, "pay 'x' to one that failed", () -> x.pay(2, 1, 'x', 1));
        due.isThrown(Wrong.STATE, "pay to one that failed", () -> x.pay(2, 1, 'g', 1));
        due.isThrown(Wrong.STATE, "pay of one that failed", () -> x.pay(1, 2, 'g', 1));
        due.isThrown(Wrong.UNSUPPORTED, "pay 4 of 3", () -> x.pay(2, 3, 'g', 4));
        due.isThrown(Wrong.UNSUPPORTED, "pay 90 of 3", () -> x.pay(2, 3, 'g', 90));
        x.hoard(1, true);
        due.isThrown(Wrong.UNSUPPORTED, "pay 3, one hoarded", () -> x.pay(2, 3, 'g', 3));
        due.is("pay 2", x.pay(2, 3, 'g', 2), 10);
    }
}
