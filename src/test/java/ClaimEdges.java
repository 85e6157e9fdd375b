/** Promises 13 to 16: lend, hand, forgive, claim. */
final class ClaimEdges {
    /** The trader 2 has a claim of 20 on the bank, which it did not lend to another. */
    private static final String OWED = Given.BROKEN + "lend 1 2 20; ";

    private final Edges e;

    ClaimEdges(Edges edges) {
        e = edges;
    }

    void tell() {
        lend();
        lendRefused();
        hand();
        handRefused();
        forgive();
        forgiveRefused();
        claim();
    }

    private void lend() {
        e.section("Promise 13: lend");
        e.says("Makes a loan.");
        e.given(Given.BROKEN);
        e.answers("lend 1 2 7", 7);
        e.then("claim 2 1", 7);
        e.then("claim 1 2", 7);
        e.then("claim 1 3", 0);
        e.then("claim 3 1", 0);
        e.then("wealth 1", 0);
        e.then("wealth 2", 0);
        e.then("coins 2 g", 0);
        e.then("isSound", true);
        e.answers("lend 1 0 7", 7);
        e.then("claim 0 1", 7);
        e.then("claim 1 0", 7);

        e.says("- `amount`: the amount, 1 to 9999");
        e.given(Given.BROKEN);
        e.answers("lend 1 2 1", 1);
        e.then("claim 1 2", 1);
        e.answers("lend 1 2 9999", 9999);
        e.then("claim 1 2", 9999);
        e.then("lend 1 2 9999", 19998);
        e.refusesEach("lend 1 2 ?", Given.ARGUMENT, Given.outside(9999));

        e.says("Returns the claim of the house on the bank then.");
        e.given(Given.DEPOSITED);
        e.answers("lend 1 2 5", 36);
        e.then("claim 1 2", 5);
        e.then("lend 1 2 6", 42);
        e.then("claim 1 2", 11);
        e.then("lend 1 3 4", 4);
        e.given(Given.HARBOUR + "addHouse b; lend 1 4 6");
        e.answers("lend 4 1 3", 9);
        e.then("claim 4 1", 9);
    }

    private void lendRefused() {
        e.says("Throws `IndexOutOfBoundsException` if there is no such house, for either");
        e.given(OWED);
        for (String amount : new String[] {"1", "0", "10000"}) {
            e.refusesEach("lend ? 2 " + amount, Given.INDEX, Given.NO_HOUSES);
            e.refusesEach("lend 1 ? " + amount, Given.INDEX, Given.NO_HOUSES);
            e.refusesEach("lend ? ? " + amount, Given.INDEX, Given.NO_HOUSES);
            e.refusesEach("lend 0 ? " + amount, Given.INDEX, Given.NO_HOUSES);
            e.refusesEach("lend 4 ? " + amount, Given.INDEX, Given.NO_HOUSES);
            e.refusesEach("lend ? 4 " + amount, Given.INDEX, Given.NO_HOUSES);
        }
        e.answers("lend 1 3 1", 1);

        e.says("Throws `IllegalArgumentException` if the number is out of range, both are the same, or it is no bank");
        e.given(OWED);
        for (String houses : new String[] {"1 2", "1 4", "4 2", "1 1", "0 2", "2 3", "4 4"}) {
            e.refusesEach("lend " + houses + " ?", Given.ARGUMENT, Given.outside(9999));
        }
        e.refusesEach("lend ? 1", Given.ARGUMENT, "0 0", "1 1", "2 2", "4 4");
        e.refusesEach("lend ? 1", Given.ARGUMENT, "0 2", "0 1", "2 1", "3 2", "0 4", "2 4");

        e.says("Throws `IllegalStateException` if either failed");
        e.given(OWED);
        e.refuses("lend 4 2 1", Given.STATE);
        e.refuses("lend 1 4 1", Given.STATE);
        e.refuses("lend 4 1 9999", Given.STATE);
        e.answers("lend 1 2 1", 21);
    }

    private void hand() {
        e.section("Promise 14: hand");
        e.says("Hands a claim on a bank to another house.");
        e.given(OWED + "lend 1 3 4; ");
        e.answers("hand 2 3 1 5", 15);
        e.then("claim 2 1", 15);
        e.then("claim 3 1", 9);
        e.then("claim 2 3", 0);
        e.then("claim 3 2", 0);
        e.then("claim 1 2", 20);
        e.then("claim 1 3", 4);
        e.then("wealth 2", -5);
        e.then("wealth 3", 5);
        e.then("wealth 1", 0);
        e.then("isSound", true);
        e.answers("hand 2 0 1 5", 15);
        e.then("claim 0 1", 5);

        e.says("- `amount`: the amount, 1 to 9999");
        e.given(Given.BROKEN + "lend 1 2 9999; lend 1 2 9999; ");
        e.answers("hand 2 3 1 1", 19997);
        e.answers("hand 2 3 1 9999", 9999);
        e.then("claim 3 1", 9999);
        e.refusesEach("hand 2 3 1 ?", Given.ARGUMENT, Given.outside(9999));

        e.says("Returns what is left of the claim.");
        e.given(OWED);
        e.answers("hand 2 3 1 1", 19);
        e.then("hand 2 3 1 18", 1);
        e.then("hand 2 3 1 1", 0);
        e.then("claim 2 1", 0);
        e.then("hand 3 0 1 19", 1);
    }

    private void handRefused() {
        e.says("Throws `IndexOutOfBoundsException` if there is no such house, for any");
        e.given(OWED);
        for (String amount : new String[] {"1", "0", "10000", "21"}) {
            e.refusesEach("hand ? 3 1 " + amount, Given.INDEX, Given.NO_HOUSES);
            e.refusesEach("hand 2 ? 1 " + amount, Given.INDEX, Given.NO_HOUSES);
            e.refusesEach("hand 2 3 ? " + amount, Given.INDEX, Given.NO_HOUSES);
            e.refusesEach("hand ? 4 4 " + amount, Given.INDEX, Given.NO_HOUSES);
            e.refusesEach("hand 4 ? 0 " + amount, Given.INDEX, Given.NO_HOUSES);
            e.refusesEach("hand 2 2 ? " + amount, Given.INDEX, Given.NO_HOUSES);
            e.refusesEach("hand ? ? ? " + amount, Given.INDEX, Given.NO_HOUSES);
        }

        e.says("Throws `IllegalArgumentException` if the number is out of range, two of the three are the same, "
                + "or it is no bank");
        e.given(OWED);
        for (String houses : new String[] {"2 3 1", "3 2 1", "4 3 1", "2 4 1", "2 3 4", "2 2 1", "2 3 0"}) {
            e.refusesEach("hand " + houses + " ?", Given.ARGUMENT, Given.outside(9999));
        }
        // The first two, the last two, the first and the last, and all three are the same.
        e.refusesEach("hand ? 1", Given.ARGUMENT, "2 2 1", "2 1 1", "1 2 1", "1 1 1", "4 4 1", "4 4 4", "2 4 4");
        e.refusesEach("hand ? 1", Given.ARGUMENT, "4 2 4", "2 2 4", "3 3 1");
        // No bank: the crown and a trader, also where one failed, or the claim is less.
        e.refusesEach("hand ? 1", Given.ARGUMENT, "2 3 0", "2 0 3", "1 2 0", "2 4 0", "4 2 3", "2 4 3", "4 3 2");
        e.refuses("hand 2 2 1 21", Given.ARGUMENT);
        e.refuses("hand 2 3 0 21", Given.ARGUMENT);

        e.says("Throws `IllegalStateException` if any of them failed");
        e.given(OWED);
        e.refuses("hand 4 3 1 1", Given.STATE);
        e.refuses("hand 2 4 1 1", Given.STATE);
        e.refuses("hand 2 3 4 1", Given.STATE);
        e.refuses("hand 2 4 1 21", Given.STATE);
        e.refuses("hand 3 4 1 1", Given.STATE);
        e.answers("hand 2 3 1 1", 19);

        e.says("Throws `UnsupportedOperationException` if the claim is less");
        e.given(OWED);
        e.answers("hand 2 3 1 20", 0);
        e.then("hand 2 3 1 1", Given.UNSUPPORTED);
        e.refuses("hand 2 3 1 21", Given.UNSUPPORTED);
        e.refuses("hand 2 3 1 9999", Given.UNSUPPORTED);
        e.refuses("hand 3 2 1 1", Given.UNSUPPORTED);
        e.refuses("hand 0 2 1 1", Given.UNSUPPORTED);
    }

    private void forgive() {
        e.section("Promise 15: forgive");
        e.says("Forgives a claim, or a part of it.");
        e.given(OWED);
        e.answers("forgive 2 1 5", 15);
        e.then("claim 2 1", 15);
        e.then("claim 1 2", 20);
        e.then("lost", 1);
        e.then("wealth 2", -5);
        e.then("wealth 1", 5);
        e.then("isSound", true);
        e.answers("forgive 1 2 20", 0);
        e.then("claim 1 2", 0);
        e.then("claim 2 1", 20);
        e.then("lost", 1);

        e.says("- `amount`: the amount, 1 to 9999");
        e.given(Given.BROKEN + "lend 1 2 9999; lend 1 2 9999; ");
        e.answers("forgive 2 1 1", 19997);
        e.answers("forgive 2 1 9999", 9999);
        e.refusesEach("forgive 2 1 ?", Given.ARGUMENT, Given.outside(9999));

        e.says("Returns what is left of the claim.");
        e.given(OWED);
        e.answers("forgive 2 1 1", 19);
        e.then("forgive 2 1 18", 1);
        e.then("forgive 2 1 1", 0);
    }

    private void forgiveRefused() {
        e.says("Throws `IndexOutOfBoundsException` if there is no such house, for either");
        e.given(OWED);
        for (String amount : new String[] {"1", "0", "10000", "21"}) {
            e.refusesEach("forgive ? 1 " + amount, Given.INDEX, Given.NO_HOUSES);
            e.refusesEach("forgive 2 ? " + amount, Given.INDEX, Given.NO_HOUSES);
            e.refusesEach("forgive ? ? " + amount, Given.INDEX, Given.NO_HOUSES);
        }
        e.answers("forgive 2 1 1", 19);

        e.says("Throws `IllegalArgumentException` if the number is out of range");
        e.given(OWED);
        for (String houses : new String[] {"2 1", "1 2", "2 3", "2 2", "4 2", "2 4"}) {
            e.refusesEach("forgive " + houses + " ?", Given.ARGUMENT, Given.outside(9999));
        }

        e.says("Throws `UnsupportedOperationException` if the claim is less");
        e.given(OWED);
        e.answers("forgive 2 1 20", 0);
        e.then("forgive 2 1 1", Given.UNSUPPORTED);
        e.refuses("forgive 2 1 21", Given.UNSUPPORTED);
        e.refuses("forgive 2 1 9999", Given.UNSUPPORTED);
        // No other exception is documented, so that a house and itself, and those that failed, end here.
        e.refusesEach("forgive ? 1", Given.UNSUPPORTED, "2 2", "0 0", "3 1", "1 3", "0 1", "4 2", "2 4", "4 4");
    }

    private void claim() {
        e.section("Promise 16: claim");
        e.says("Returns the claim of a house on another one.");
        e.given(OWED + "lend 1 3 4; forgive 1 2 8; draw 2 3 6 1; nextDay; ");
        e.asks("claim 2 1", 20);
        e.asks("claim 1 2", 12);
        e.asks("claim 3 1", 4);
        e.asks("claim 1 3", 4);
        e.asks("claim 2 3", 6);
        e.asks("claim 3 2", 0);

        e.says("Returns the amount.");
        e.given(OWED);
        e.asks("claim 2 1", 20);
        e.asks("claim 0 1", 0);
        e.asks("claim 2 2", 0);
        e.asks("claim 1 1", 0);
        e.asks("claim 4 2", 0);
        e.asks("claim 3 4", 0);
        e.asks("claim 4 4", 0);

        e.says("Throws `IndexOutOfBoundsException` if there is no such house, for either");
        e.given(OWED);
        e.refusesEach("claim ? 1", Given.INDEX, Given.NO_HOUSES);
        e.refusesEach("claim 2 ?", Given.INDEX, Given.NO_HOUSES);
        e.refusesEach("claim ? ?", Given.INDEX, Given.NO_HOUSES);
        e.refusesEach("claim 4 ?", Given.INDEX, Given.NO_HOUSES);
        e.given("");
        e.asks("claim 0 0", 0);
        e.refusesEach("claim 0 ?", Given.INDEX, "1", "-1", "min", "max");
        e.refusesEach("claim ? 0", Given.INDEX, "1", "-1", "min", "max");
        e.given(Given.HARBOUR + "addHouse t; addHouse t");
        e.asks("claim 5 5", 0);
        e.refuses("claim 6 5", Given.INDEX);
        e.refuses("claim 5 6", Given.INDEX);
    }
}
