/** Promises 17 to 20: draw, endorse, holderOf, nextDay. */
final class BillEdges {
    /** Two bills of the trader 2 on the trader 3; the bill 0 comes due first. */
    private static final String DRAWN = Given.BROKEN + "draw 2 3 8 1; draw 2 3 5 2; ";
    private static final String TWELVE = Given.BROKEN + "draw 2 3 1 9; ".repeat(12);
    /** Five houses in turn endorsed the bill 0, which the trader 3 holds. */
    private static final String ENDORSED = Given.BROKEN + "draw 2 3 8 1; endorse 0 3; endorse 0 0; endorse 0 1; "
            + "endorse 0 2; endorse 0 3; ";

    private final Edges e;

    BillEdges(Edges edges) {
        e = edges;
    }

    void tell() {
        draw();
        drawRefused();
        endorse();
        endorseRefused();
        endorseUnsupported();
        holderOf();
        nextDay();
        nextDayCounts();
    }

    private void draw() {
        e.section("Promise 17: draw");
        e.says("Draws a bill.");
        e.given(Given.BROKEN);
        e.answers("draw 2 3 8 1", 0);
        e.then("holderOf 0", 2);
        e.then("claim 2 3", 0);
        e.then("wealth 2", 0);
        e.then("nextDay", 1);
        e.then("claim 2 3", 8);
        e.then("isSound", true);
        e.answers("draw 0 1 8 1", 0);
        e.then("nextDay", 1);
        e.then("claim 0 1", 8);
        e.answers("draw 1 0 8 1", 0);
        e.then("nextDay", 1);
        e.then("claim 1 0", 8);

        e.says("- `amount`: the amount, 1 to 9999");
        e.given(Given.BROKEN);
        e.answers("draw 2 3 1 1", 0);
        e.then("draw 3 2 9999 1", 1);
        e.then("nextDay", 2);
        e.then("claim 2 3", 1);
        e.then("claim 3 2", 9999);
        e.refusesEach("draw 2 3 ? 1", Given.ARGUMENT, Given.outside(9999));

        e.says("- `days`: in how many days, 1 to 9");
        e.given(Given.BROKEN);
        e.answers("draw 2 3 8 1", 0);
        e.then("draw 3 2 5 9", 1);
        e.then("nextDay", 1);
        for (int day = 2; day <= 8; day++) {
            e.then("nextDay", 0);
        }
        e.then("holderOf 1", 3);
        e.then("nextDay", 1);
        e.then("holderOf 1", -1);
        e.refusesEach("draw 2 3 8 ?", Given.ARGUMENT, Given.outside(9));

        e.says("Returns the number of the bill.");
        e.given(Given.BROKEN);
        e.answers("draw 2 3 1 1", 0);
        for (int bill = 1; bill < 12; bill++) {
            e.then("nextDay", 1);
            e.then("draw 3 0 1 1", bill);
        }
    }

    private void drawRefused() {
        e.says("Throws `IndexOutOfBoundsException` if there is no such house, for either");
        e.given(DRAWN);
        for (String rest : new String[] {"1 1", "0 1", "1 0", "10000 10"}) {
            e.refusesEach("draw ? 2 " + rest, Given.INDEX, Given.NO_HOUSES);
            e.refusesEach("draw 2 ? " + rest, Given.INDEX, Given.NO_HOUSES);
            e.refusesEach("draw ? ? " + rest, Given.INDEX, Given.NO_HOUSES);
            e.refusesEach("draw 4 ? " + rest, Given.INDEX, Given.NO_HOUSES);
            e.refusesEach("draw ? 4 " + rest, Given.INDEX, Given.NO_HOUSES);
        }
        e.given(TWELVE);
        e.refuses("draw 5 2 1 1", Given.INDEX);
        e.refuses("draw 2 5 1 1", Given.INDEX);

        e.says("Throws `IllegalArgumentException` if a number is out of range, or both are the same");
        for (String state : new String[] {DRAWN, TWELVE}) {
            e.given(state);
            for (String houses : new String[] {"2 3", "4 2", "2 4", "2 2"}) {
                e.refusesEach("draw " + houses + " ? 1", Given.ARGUMENT, Given.outside(9999));
                e.refusesEach("draw " + houses + " 1 ?", Given.ARGUMENT, Given.outside(9));
            }
            e.refusesEach("draw ? 1 1", Given.ARGUMENT, "0 0", "1 1", "2 2", "3 3", "4 4");
        }

        e.says("Throws `IllegalStateException` if either failed");
        for (String state : new String[] {DRAWN, TWELVE}) {
            e.given(state);
            e.refuses("draw 4 2 1 1", Given.STATE);
            e.refuses("draw 2 4 1 1", Given.STATE);
            e.refuses("draw 4 0 9999 9", Given.STATE);
        }
        e.given(DRAWN);
        e.answers("draw 1 2 1 1", 2);

        e.says("Throws `UnsupportedOperationException` if there are 12 bills");
        e.given(Given.BROKEN + "draw 2 3 1 9; ".repeat(11));
        e.answers("draw 2 3 1 1", 11);
        e.then("draw 2 3 1 1", Given.UNSUPPORTED);
        e.given(TWELVE);
        e.refuses("draw 2 3 1 1", Given.UNSUPPORTED);
        e.refuses("draw 0 2 9999 9", Given.UNSUPPORTED);
        // Bills that came due keep their numbers.
        e.given(TWELVE + "nextDay; ".repeat(9));
        e.refuses("draw 2 3 1 1", Given.UNSUPPORTED);
    }

    private void endorse() {
        e.section("Promise 18: endorse");
        e.says("Hands a bill on.");
        e.given(DRAWN);
        e.answers("endorse 0 0", 2);
        e.then("holderOf 0", 0);
        e.then("holderOf 1", 2);
        e.then("claim 0 3", 0);
        e.then("nextDay", 1);
        e.then("claim 0 3", 8);
        e.then("claim 2 3", 0);
        e.then("isSound", true);

        e.says("Returns the holder before.");
        e.given(DRAWN);
        e.answers("endorse 0 3", 2);
        e.then("endorse 0 0", 3);
        e.then("endorse 0 1", 0);
        e.then("endorse 1 1", 2);
        e.then("endorse 0 2", 1);
        e.then("endorse 0 0", 2);
        e.then("holderOf 0", 0);
        e.then("holderOf 1", 1);
    }

    private void endorseRefused() {
        e.says("Throws `IndexOutOfBoundsException` if there is no such bill or house");
        e.given(DRAWN);
        e.answers("endorse 1 3", 2);
        e.refusesEach("endorse ? 3", Given.INDEX, "2", "-1", "11", "12", "min", "max");
        e.refusesEach("endorse ? 4", Given.INDEX, "2", "-1", "11", "12", "min", "max");
        e.refusesEach("endorse 0 ?", Given.INDEX, Given.NO_HOUSES);
        e.given(DRAWN + "nextDay");
        e.refusesEach("endorse 0 ?", Given.INDEX, Given.NO_HOUSES);
        e.given(ENDORSED);
        e.refusesEach("endorse 0 ?", Given.INDEX, Given.NO_HOUSES);
        e.given(TWELVE);
        e.answers("endorse 11 3", 2);
        e.refuses("endorse 12 3", Given.INDEX);
        e.given(Given.BROKEN);
        e.refuses("endorse 0 3", Given.INDEX);

        e.says("Throws `IllegalArgumentException` if it is the holder");
        e.given(DRAWN);
        e.refuses("endorse 0 2", Given.ARGUMENT);
        e.given(DRAWN + "endorse 0 3");
        e.refuses("endorse 0 3", Given.ARGUMENT);
        e.answers("endorse 0 2", 3);
        e.given(ENDORSED);
        e.refuses("endorse 0 3", Given.ARGUMENT);
        // The holder failed as well.
        e.given(Given.HARBOUR + "draw 1 2 8 1; lend 1 3 1; withdraw 3 1 s 1");
        e.refuses("endorse 0 1", Given.ARGUMENT);

        e.says("Throws `IllegalStateException` if either failed, or the bill came due");
        e.given(Given.HARBOUR + "draw 1 2 8 1; lend 1 3 1; withdraw 3 1 s 1");
        e.refuses("endorse 0 2", Given.STATE);
        e.refuses("endorse 0 0", Given.STATE);
        e.given(DRAWN);
        e.refuses("endorse 0 4", Given.STATE);
        e.given(ENDORSED);
        e.refuses("endorse 0 4", Given.STATE);
        e.given(DRAWN + "nextDay");
        e.refuses("endorse 0 0", Given.STATE);
        e.refuses("endorse 0 3", Given.STATE);
        e.refuses("endorse 0 4", Given.STATE);
        // Whether who held a bill when it came due still is its holder, the document leaves open.
        e.refuses("endorse 0 2", Given.STATE + " or " + Given.ARGUMENT);
        e.answers("endorse 1 3", 2);
        e.given(ENDORSED + "nextDay");
        e.refuses("endorse 0 2", Given.STATE);
    }

    private void endorseUnsupported() {
        e.says("Throws `UnsupportedOperationException` if 5 endorsed it");
        e.given(Given.BROKEN + "draw 2 3 8 1; endorse 0 3; endorse 0 0; endorse 0 1; endorse 0 2");
        e.answers("endorse 0 3", 2);
        e.then("endorse 0 0", Given.UNSUPPORTED);
        e.then("holderOf 0", 3);
        e.given(ENDORSED);
        e.refusesEach("endorse 0 ?", Given.UNSUPPORTED, "0", "1", "2");
        // A house that endorsed twice counts twice.
        e.given(Given.BROKEN + "draw 2 3 8 1; endorse 0 3; endorse 0 2; endorse 0 3; endorse 0 2; endorse 0 3");
        e.refuses("endorse 0 2", Given.UNSUPPORTED);
        e.given(Given.BROKEN + "draw 2 3 8 1; endorse 0 3; endorse 0 0; endorse 0 3; endorse 0 0; endorse 0 2");
        e.refuses("endorse 0 3", Given.UNSUPPORTED);
        e.given(ENDORSED + "draw 2 3 5 1");
        e.answers("endorse 1 3", 2);
    }

    private void holderOf() {
        e.section("Promise 19: holderOf");
        e.says("Returns the holder of a bill.");
        e.given(DRAWN + "endorse 1 0; draw 1 2 3 9; draw 3 2 3 9; draw 0 2 3 9; draw 2 0 3 9; draw 2 0 3 9");
        e.asks("holderOf 0", 2);
        e.asks("holderOf 1", 0);
        e.asks("holderOf 2", 1);
        e.asks("holderOf 3", 3);
        e.asks("holderOf 4", 0);
        e.asks("holderOf 6", 2);

        e.says("Returns the holder, or -1 if it came due.");
        e.given(DRAWN);
        e.asks("holderOf 0", 2);
        e.given(DRAWN + "nextDay");
        e.asks("holderOf 0", -1);
        e.asks("holderOf 1", 2);
        e.given(DRAWN + "nextDay; nextDay");
        e.asks("holderOf 0", -1);
        e.asks("holderOf 1", -1);
        // A holder that failed is the holder, until the bill comes due without a claim.
        e.given(Given.HARBOUR + "draw 1 2 8 1; lend 1 3 1; withdraw 3 1 s 1");
        e.asks("holderOf 0", 1);
        e.given(Given.HARBOUR + "draw 1 2 8 1; lend 1 3 1; withdraw 3 1 s 1; nextDay");
        e.asks("holderOf 0", -1);

        e.says("Throws `IndexOutOfBoundsException` if there is no such bill");
        e.given(Given.BROKEN);
        e.refusesEach("holderOf ?", Given.INDEX, "0", "-1", "11", "12", "min", "max");
        e.given(DRAWN);
        e.asks("holderOf 1", 2);
        e.refusesEach("holderOf ?", Given.INDEX, "2", "-1", "11", "12", "min", "max");
        e.given(TWELVE);
        e.asks("holderOf 11", 2);
        e.refusesEach("holderOf ?", Given.INDEX, "12", "13", "-1", "min", "max");
        e.given(TWELVE + "nextDay; ".repeat(9));
        e.asks("holderOf 11", -1);
        e.refuses("holderOf 12", Given.INDEX);
    }

    private void nextDay() {
        e.section("Promise 20: nextDay");
        e.says("Goes on to the next day; bills of that day come due.");
        e.given(DRAWN);
        e.answers("nextDay", 1);
        e.then("holderOf 0", -1);
        e.then("holderOf 1", 2);
        e.then("claim 2 3", 8);
        e.then("draw 3 2 7 1", 2);
        e.then("nextDay", 2);
        e.then("holderOf 1", -1);
        e.then("holderOf 2", -1);
        e.then("claim 2 3", 13);
        e.then("claim 3 2", 7);
        e.then("nextDay", 0);
        e.then("claim 2 3", 13);
        e.then("isSound", true);
        e.given(Given.BROKEN + "nextDay; ".repeat(40));
        e.answers("draw 2 3 8 9", 0);
        for (int day = 1; day <= 8; day++) {
            e.then("nextDay", 0);
        }
        e.then("nextDay", 1);
    }

    private void nextDayCounts() {
        e.says("Returns how many claims came of bills.");
        e.answers("nextDay", 0);
        e.then("nextDay", 0);
        e.given(Given.BROKEN + "draw 2 3 1 1; ".repeat(12));
        e.answers("nextDay", 12);
        e.then("nextDay", 0);
        e.given(Given.BROKEN + "draw 2 3 1 2; draw 2 3 1 1; draw 3 2 1 3; draw 0 1 1 1; ");
        e.answers("nextDay", 2);
        e.then("nextDay", 1);
        e.then("nextDay", 1);
        // Of the bill 0 the holder is the one who pays; the holder of the bill 1 failed.
        e.given(Given.HARBOUR + "draw 2 3 1 1; endorse 0 3; draw 1 3 1 1; draw 2 3 4 1; lend 1 3 1; "
                + "withdraw 3 1 s 1; ");
        e.answers("nextDay", 1);
        e.then("claim 2 3", 4);
        e.then("claim 3 2", 0);
        e.then("claim 1 3", 0);
        e.then("claim 0 3", 1);
    }
}
