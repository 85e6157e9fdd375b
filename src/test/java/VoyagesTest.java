/** Promises 21 and 22: addShare, throwOver. */
public final class VoyagesTest {
    private static final Due due = new Due();

    public static void main(String[] args) {
        addShare();
        addShareWrong();
        lossIsBorneByValue();
        greatestRemaindersFirst();
        equalRemaindersByNumber();
        sharesStay();
        alone();
        throwOverWrong();
        throwOverWithOneThatFailed();
        due.end();
    }

    private static void addShare() {
        Harbourmint x = States.harbour();
        due.is("addShare", x.addShare(0, 2, 99), 99);
        due.is("addShare again", x.addShare(0, 2, 1), 100);
        due.is("another voyage", x.addShare(3, 2, 7), 7);
        due.is("another house", x.addShare(0, 0, 8), 8);
        due.is("no claim comes of it", x.claim(2, 0), 0);
    }

    private static void addShareWrong() {
        Harbourmint x = States.broken();
        due.isThrown(Wrong.INDEX, "voyage 4", () -> x.addShare(4, 2, 0));
        due.isThrown(Wrong.INDEX, "voyage -1", () -> x.addShare(-1, 2, 1));
        due.isThrown(Wrong.INDEX, "house 4", () -> x.addShare(0, 4, 0));
        due.isThrown(Wrong.INDEX, "house -1", () -> x.addShare(0, -1, 1));
        due.isThrown(Wrong.ARGUMENT, "value 0", () -> x.addShare(0, 2, 0));
        due.isThrown(Wrong.ARGUMENT, "value 100", () -> x.addShare(0, 2, 100));
        due.isThrown(Wrong.ARGUMENT, "value 0 of one that failed", () -> x.addShare(0, 1, 0));
        due.isThrown(Wrong.STATE, "one that failed", () -> x.addShare(0, 1, 1));
        due.is("nothing stood", x.addShare(0, 2, 5), 5);
    }

    private static void lossIsBorneByValue() {
        Harbourmint x = States.harbour();
        x.addShare(1, 0, 10);
        x.addShare(1, 2, 20);
        x.addShare(1, 3, 30);
        x.addShare(2, 1, 50);
        due.is("throwOver", x.throwOver(1, 2, 60), 20);
        due.is("claim(2, 0)", x.claim(2, 0), 10);
        due.is("claim(2, 3)", x.claim(2, 3), 30);
        due.is("who has a share in another voyage", x.claim(2, 1), 0);
        due.is("claim(2, 2)", x.claim(2, 2), 0);
        due.is("claim(3, 2)", x.claim(3, 2), 0);
        due.is("wealth(2)", x.wealth(2), 40);
    }

    /** 10 times 2, 3 and 4 by 9: 2, 3 and 4, the remainders being 2, 3 and 4: the last bears 1 more. */
    private static void greatestRemaindersFirst() {
        Harbourmint x = States.harbour();
        x.addShare(0, 0, 2);
        x.addShare(0, 2, 3);
        x.addShare(0, 3, 4);
        due.is("throwOver", x.throwOver(0, 3, 10), 5);
        due.is("claim(3, 0)", x.claim(3, 0), 2);
        due.is("claim(3, 2)", x.claim(3, 2), 3);
        // 8: 1, 2 and 3 with the remainders 7, 6 and 5, and 2 are left.
        due.is("throwOver 8", x.throwOver(0, 3, 8), 3);
        due.is("claim(3, 0)", x.claim(3, 0), 4);
        due.is("claim(3, 2)", x.claim(3, 2), 6);
    }

    private static void equalRemaindersByNumber() {
        Harbourmint x = States.harbour();
        for (int house = 0; house < 4; house++) {
            x.addShare(0, house, 1);
        }
        due.is("throwOver", x.throwOver(0, 3, 6), 1);
        due.is("claim(3, 0)", x.claim(3, 0), 2);
        due.is("claim(3, 1)", x.claim(3, 1), 2);
        due.is("claim(3, 2)", x.claim(3, 2), 1);
        due.is("a loss of 1", x.throwOver(0, 3, 1), 0);
        due.is("the crown bears it", x.claim(3, 0), 3);
    }

    private static void sharesStay() {
        Harbourmint x = States.harbour();
        x.addShare(0, 2, 1);
        x.addShare(0, 3, 1);
        due.is("throwOver", x.throwOver(0, 2, 99), 50);
        due.is("throwOver again", x.throwOver(0, 2, 99), 50);
        due.is("claim(2, 3)", x.claim(2, 3), 98);
        due.is("the other's goods", x.throwOver(0, 3, 99), 49);
        due.is("it is not set off", x.claim(3, 2), 50);
        due.is("the share", x.addShare(0, 2, 1), 2);
    }

    private static void alone() {
        Harbourmint x = States.harbour();
        x.addShare(3, 2, 99);
        due.is("who is alone bears all", x.throwOver(3, 2, 99), 99);
        x.addShare(2, 3, 1);
        due.is("with the least share, too", x.throwOver(2, 3, 7), 7);
        due.is("wealth(2)", x.wealth(2), 0);
    }

    private static void throwOverWrong() {
        Harbourmint x = States.harbour();
        x.addShare(0, 2, 1);
        due.isThrown(Wrong.INDEX, "voyage 4", () -> x.throwOver(4, 2, 0));
        due.isThrown(Wrong.INDEX, "voyage -1", () -> x.throwOver(-1, 2, 1));
        due.isThrown(Wrong.INDEX, "house 4", () -> x.throwOver(0, 4, 0));
        due.isThrown(Wrong.INDEX, "house -1", () -> x.throwOver(0, -1, 1));
        due.isThrown(Wrong.ARGUMENT, "loss 0", () -> x.throwOver(0, 2, 0));
        due.isThrown(Wrong.ARGUMENT, "loss 100", () -> x.throwOver(0, 2, 100));
        due.isThrown(Wrong.UNSUPPORTED, "no share", () -> x.throwOver(0, 3, 1));
        due.isThrown(Wrong.UNSUPPORTED, "nobody has a share", () -> x.throwOver(1, 2, 1));
        due.isThrown(Wrong.ARGUMENT, "no share, loss 100", () -> x.throwOver(0, 3, 100));
    }

    private static void throwOverWithOneThatFailed() {
        Harbourmint x = States.harbour();
        x.addShare(0, 1, 5);
        x.addShare(0, 2, 5);
        x.addShare(1, 2, 5);
        States.breakBank(x, 1, 3);
        due.isThrown(Wrong.STATE, "one who has a share failed", () -> x.throwOver(0, 2, 4));
        due.isThrown(Wrong.STATE, "it failed", () -> x.throwOver(0, 1, 4));
        due.isThrown(Wrong.STATE, "it failed, without a share", () -> x.throwOver(1, 1, 4));
        due.isThrown(Wrong.STATE, "no share, and one failed", () -> x.throwOver(0, 3, 4));
        due.isThrown(Wrong.ARGUMENT, "it failed, loss 0", () -> x.throwOver(0, 1, 0));
        due.is("a voyage without it", x.throwOver(1, 2, 4), 4);
    }
}
