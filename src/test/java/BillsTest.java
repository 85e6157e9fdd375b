/** Promises 17 to 20: draw, endorse, holderOf, nextDay. */
public final class BillsTest {
    private static final Due due = new Due();

    public static void main(String[] args) {
        draw();
        drawWrong();
        endorse();
        endorseWrong();
        endorseOfAHolderThatFailed();
        holderOf();
        nextDay();
        whoIsLiable();
        latestEndorserFirst();
        holderIsLiableHimself();
        holderFailed();
        nobodyIsLiable();
        theLastBillHasAllItsEndorsers();
        byRisingNumbers();
        due.end();
    }

    private static void draw() {
        Harbourmint x = States.harbour();
        due.is("draw", x.draw(2, 3, 1, 1), 0);
        due.is("draw of the crown", x.draw(0, 2, 9999, 9), 1);
        due.is("draw on a bank", x.draw(3, 1, 5, 9), 2);
        due.is("draw of a bank", x.draw(1, 0, 5, 9), 3);
        due.is("the drawer is the holder", x.holderOf(2), 3);
        due.is("no claim comes of it yet", x.claim(2, 3), 0);
    }

    private static void drawWrong() {
        Harbourmint x = States.broken();
        due.isThrown(Wrong.INDEX, "draw of 4", () -> x.draw(4, 2, 0, 0));
        due.isThrown(Wrong.INDEX, "draw on -1", () -> x.draw(2, -1, 1, 1));
        due.isThrown(Wrong.ARGUMENT, "amount 0", () -> x.draw(2, 3, 0, 1));
        due.isThrown(Wrong.ARGUMENT, "amount 10000", () -> x.draw(2, 3, 10000, 1));
        due.isThrown(Wrong.ARGUMENT, "0 days", () -> x.draw(2, 3, 1, 0));
        due.isThrown(Wrong.ARGUMENT, "10 days", () -> x.draw(2, 3, 1, 10));
        due.isThrown(Wrong.ARGUMENT, "draw on oneself", () -> x.draw(2, 2, 1, 1));
        due.isThrown(Wrong.ARGUMENT, "10 days, on one that failed", () -> x.draw(2, 1, 1, 10));
        due.isThrown(Wrong.STATE, "draw on one that failed", () -> x.draw(2, 1, 1, 1));
        due.isThrown(Wrong.STATE, "draw of one that failed", () -> x.draw(1, 2, 1, 1));
        for (int bill = 0; bill < 12; bill++) {
            due.is("draw", x.draw(2, 3, 1, 1), bill);
        }
        due.isThrown(Wrong.UNSUPPORTED, "a thirteenth bill", () -> x.draw(2, 3, 1, 1));
        due.isThrown(Wrong.STATE, "a thirteenth bill on one that failed", () -> x.draw(2, 1, 1, 1));
        due.is("nextDay()", x.nextDay(), 12);
        due.isThrown(Wrong.UNSUPPORTED, "a bill that came due keeps its number", () -> x.draw(2, 3, 1, 1));
    }

    private static void endorse() {
        Harbourmint x = States.harbour();
        x.draw(2, 3, 8, 1);
        due.is("endorse", x.endorse(0, 0), 2);
        due.is("the crown endorses", x.endorse(0, 1), 0);
        due.is("the bank endorses", x.endorse(0, 2), 1);
        due.is("holderOf(0)", x.holderOf(0), 2);
        due.is("no claim comes of it yet", x.claim(2, 1), 0);
    }

    private static void endorseWrong() {
        Harbourmint x = States.broken();
        x.draw(2, 3, 8, 1);
        due.isThrown(Wrong.INDEX, "endorse(1)", () -> x.endorse(1, 3));
        due.isThrown(Wrong.INDEX, "endorse(-1)", () -> x.endorse(-1, 3));
        due.isThrown(Wrong.INDEX, "endorse to 4", () -> x.endorse(0, 4));
        due.isThrown(Wrong.INDEX, "endorse to -1", () -> x.endorse(0, -1));
        due.isThrown(Wrong.ARGUMENT, "endorse to the holder", () -> x.endorse(0, 2));
        due.isThrown(Wrong.STATE, "endorse to one that failed", () -> x.endorse(0, 1));
        int[] holders = {3, 0, 2, 3, 0};
        for (int to : holders) {
            x.endorse(0, to);
        }
        due.isThrown(Wrong.UNSUPPORTED, "a sixth endorser", () -> x.endorse(0, 2));
        due.isThrown(Wrong.ARGUMENT, "a sixth, to the holder", () -> x.endorse(0, 0));
        due.isThrown(Wrong.STATE, "a sixth, to one that failed", () -> x.endorse(0, 1));
        x.nextDay();
        due.isThrown(Wrong.STATE, "endorse what came due", () -> x.endorse(0, 2));
        due.isThrown(Wrong.INDEX, "endorse what came due to 4", () -> x.endorse(0, 4));
    }

    private static void endorseOfAHolderThatFailed() {
        Harbourmint x = States.harbour();
        x.draw(1, 3, 8, 1);
        States.breakBank(x, 1, 2);
        due.is("one that failed still holds", x.holderOf(0), 1);
        due.isThrown(Wrong.ARGUMENT, "endorse to the holder that failed", () -> x.endorse(0, 1));
        due.isThrown(Wrong.STATE, "endorse of a holder that failed", () -> x.endorse(0, 2));
    }

    private static void holderOf() {
        Harbourmint x = States.harbour();
        x.draw(2, 3, 8, 2);
        due.is("holderOf(0)", x.holderOf(0), 2);
        x.endorse(0, 0);
        due.is("holderOf(0)", x.holderOf(0), 0);
        x.nextDay();
        due.is("a day ahead", x.holderOf(0), 0);
        x.nextDay();
        due.is("when it came due", x.holderOf(0), -1);
        due.isThrown(Wrong.INDEX, "holderOf(1)", () -> x.holderOf(1));
        due.isThrown(Wrong.INDEX, "holderOf(-1)", () -> x.holderOf(-1));
    }

    private static void nextDay() {
        Harbourmint x = States.harbour();
        x.draw(2, 3, 8, 1);
        x.draw(3, 2, 5, 2);
        x.draw(0, 2, 4, 2);
        due.is("the first day", x.nextDay(), 1);
        due.is("claim(2, 3)", x.claim(2, 3), 8);
        due.is("claim(3, 2)", x.claim(3, 2), 0);
        x.draw(2, 3, 9, 9);
        due.is("the second day", x.nextDay(), 2);
        due.is("it is not set off", x.claim(3, 2), 5);
        due.is("claim(0, 2)", x.claim(0, 2), 4);
        for (int day = 3; day <= 9; day++) {
            due.is("a day without bills", x.nextDay(), 0);
        }
        due.is("the ninth day from then", x.nextDay(), 1);
        due.is("claim(2, 3)", x.claim(2, 3), 17);
        due.is("nothing comes due twice", x.nextDay(), 0);
    }

    /** The one on whom it was drawn, then the drawer. */
    private static void whoIsLiable() {
        Harbourmint x = States.harbour();
        x.draw(2, 1, 8, 1);
        x.endorse(0, 3);
        x.draw(2, 1, 5, 1);
        x.endorse(1, 0);
        x.endorse(1, 3);
        States.breakBank(x, 1, 0);
        due.is("nextDay()", x.nextDay(), 2);
        due.is("the drawer answers for both", x.claim(3, 2), 13);
        due.is("the endorser does not", x.claim(3, 0), 0);
    }

    /** The bank 1 drew on the bank 4, and both failed, so that those who endorsed answer. */
    private static void latestEndorserFirst() {
        Harbourmint x = States.harbour();
        x.addHouse('b');
        x.draw(1, 4, 8, 1);
        x.endorse(0, 2);
        x.endorse(0, 3);
        x.endorse(0, 0);
        // Here the latest one is the bank 4, so the one ahead of it answers.
        x.draw(1, 4, 6, 1);
        x.endorse(1, 2);
        x.endorse(1, 3);
        x.endorse(1, 4);
        x.endorse(1, 0);
        // And here the drawer alone endorsed.
        x.draw(1, 4, 7, 1);
        x.endorse(2, 0);
        States.breakBank(x, 1, 2);
        States.breakBank(x, 4, 2);
        due.is("nextDay()", x.nextDay(), 2);
        due.is("claim(0, 3)", x.claim(0, 3), 14);
        due.is("claim(0, 2), of the failed banks' loans alone", x.claim(0, 2), 2);
    }

    private static void holderIsLiableHimself() {
        Harbourmint x = States.harbour();
        x.draw(2, 3, 8, 1);
        x.endorse(0, 3);
        x.draw(2, 1, 8, 1);
        x.draw(2, 1, 8, 1);
        x.endorse(2, 3);
        x.endorse(2, 2);
        States.breakBank(x, 1, 0);
        due.is("no claims come of them", x.nextDay(), 0);
        due.is("the drawer does not answer", x.claim(3, 2), 0);
        due.is("the endorser does not answer", x.claim(2, 3), 0);
        due.is("holderOf(2)", x.holderOf(2), -1);
    }

    private static void holderFailed() {
        Harbourmint x = States.harbour();
        x.draw(2, 3, 8, 1);
        x.endorse(0, 1);
        States.breakBank(x, 1, 0);
        due.is("the bill is of no worth", x.nextDay(), 0);
        due.is("claim(1, 3)", x.claim(1, 3), 0);
        due.is("claim(0, 3)", x.claim(0, 3), 0);
        due.is("it came due", x.holderOf(0), -1);
        due.is("nothing is lost by it", x.lost(), 1);
        due.is("isSound()", x.isSound(), true);
    }

    /** All who answer for the bill failed: the one on whom it was drawn, and the drawer, who endorsed it. */
    private static void nobodyIsLiable() {
        Harbourmint x = States.harbour();
        x.addHouse('b');
        x.draw(1, 4, 8, 1);
        x.endorse(0, 2);
        States.breakBank(x, 1, 3);
        States.breakBank(x, 4, 3);
        due.is("nothing is claimed", x.nextDay(), 0);
        due.is("wealth(2)", x.wealth(2), 0);
        due.is("it came due", x.holderOf(0), -1);
    }

    private static void theLastBillHasAllItsEndorsers() {
        Harbourmint x = States.harbour();
        x.addHouse('b');
        for (int bill = 0; bill < 12; bill++) {
            x.draw(1, 4, 1 + bill, 9);
        }
        for (int to : new int[] {4, 1, 3, 1, 2}) {
            x.endorse(11, to);
        }
        States.breakBank(x, 1, 2);
        States.breakBank(x, 4, 2);
        for (int day = 1; day < 9; day++) {
            x.nextDay();
        }
        due.is("nextDay()", x.nextDay(), 1);
        due.is("the fourth endorser answers", x.claim(2, 3), 12);
    }

    private static void byRisingNumbers() {
        Harbourmint x = States.harbour();
        for (int bill = 0; bill < 12; bill++) {
            x.draw(2, 3, 1 << bill, 1 + bill % 3);
        }
        due.is("bills 0, 3, 6, 9", x.nextDay(), 4);
        due.is("their sum", x.claim(2, 3), 1 + 8 + 64 + 512);
        due.is("bills 1, 4, 7, 10", x.nextDay(), 4);
        due.is("bills 2, 5, 8, 11", x.nextDay(), 4);
        due.is("the sum of all", x.claim(2, 3), 4095);
    }
}
