/** Calls to which two exceptions or more apply, for each two that can apply to a call at once. */
final class FirstException {
    private final Edges e;

    FirstException(Edges edges) {
        e = edges;
    }

    void tell() {
        e.says("If several exceptions apply, the one that is documented first is thrown.");
        ofHouses();
        ofCoins();
        ofClaims();
        ofBills();
        ofVoyages();
        e.given(Given.BROKEN);
        e.refusesEach("? 5 x", Given.INDEX, "coins", "ore");
    }

    private void ofHouses() {
        e.given(Given.BROKEN + "addHouse t");
        e.refuses("addHouse x", Given.ARGUMENT);
        e.given(Given.BROKEN);
        e.refuses("dig 5 x 1", Given.INDEX);
        e.refuses("dig 5 g 0", Given.INDEX);
        e.refuses("dig 4 x 1", Given.ARGUMENT);
        e.refuses("dig 4 g 100", Given.ARGUMENT);
        e.refuses("mint 5 x 1", Given.INDEX);
        e.refuses("mint 5 g 91", Given.INDEX);
        e.refuses("mint 4 x 1", Given.ARGUMENT);
        e.refuses("mint 4 g 91", Given.ARGUMENT);
        e.refuses("mint 2 x 1", Given.ARGUMENT);
        e.refuses("mint 2 g 91", Given.ARGUMENT);
        e.refuses("mint 4 g 1", Given.STATE);
        e.refuses("recoin 5 x", Given.INDEX);
        e.refuses("recoin 4 x", Given.ARGUMENT);
    }

    private void ofCoins() {
        e.given(Given.MELTED);
        e.refuses("clip 1 10", Given.INDEX);
        e.refuses("clip 0 10", Given.ARGUMENT);
        e.refuses("clip 0 0", Given.ARGUMENT);
        e.given(Given.COINS);
        for (String call : new String[] {"pay", "deposit", "withdraw"}) {
            e.refuses(call + " 5 1 x 1", Given.INDEX);
            e.refuses(call + " 2 5 g 0", Given.INDEX);
            e.refuses(call + " 5 5 g 1", Given.INDEX);
            e.refuses(call + " 4 5 g 1", Given.INDEX);
            e.refuses(call + " 5 4 g 1", Given.INDEX);
            e.refuses(call + " 2 5 g 90", Given.INDEX);
            e.refuses(call + " 4 1 x 1", Given.ARGUMENT);
            e.refuses(call + " 2 4 g 91", Given.ARGUMENT);
            e.refuses(call + " 4 4 g 1", Given.ARGUMENT);
            e.refuses(call + " 3 1 x 1", Given.ARGUMENT);
            e.refuses(call + " 3 1 g 0", Given.ARGUMENT);
            e.refuses(call + " 1 1 g 1", Given.ARGUMENT);
            e.refuses(call + " 4 1 g 1", Given.STATE);
            e.refuses(call + " 3 4 g 1", Given.STATE);
        }
        for (String call : new String[] {"deposit", "withdraw"}) {
            e.refuses(call + " 4 2 g 1", Given.ARGUMENT);
            e.refuses(call + " 3 0 g 1", Given.ARGUMENT);
            e.refuses(call + " 5 0 g 1", Given.INDEX);
        }
    }

    private void ofClaims() {
        e.given(Given.BROKEN);
        e.refuses("lend 5 2 0", Given.INDEX);
        e.refuses("lend 2 5 1", Given.INDEX);
        e.refuses("lend 5 5 1", Given.INDEX);
        e.refuses("lend 4 5 1", Given.INDEX);
        e.refuses("lend 4 2 0", Given.ARGUMENT);
        e.refuses("lend 4 4 1", Given.ARGUMENT);
        e.refuses("lend 2 4 1", Given.ARGUMENT);
        e.refuses("hand 5 3 1 0", Given.INDEX);
        e.refuses("hand 5 5 1 1", Given.INDEX);
        e.refuses("hand 2 5 0 1", Given.INDEX);
        e.refuses("hand 4 5 1 1", Given.INDEX);
        e.refuses("hand 2 3 5 1", Given.INDEX);
        e.refuses("hand 4 3 1 0", Given.ARGUMENT);
        e.refuses("hand 4 4 1 1", Given.ARGUMENT);
        e.refuses("hand 2 4 4 1", Given.ARGUMENT);
        e.refuses("hand 4 3 0 1", Given.ARGUMENT);
        e.refuses("hand 2 3 1 10000", Given.ARGUMENT);
        e.refuses("hand 2 2 1 1", Given.ARGUMENT);
        e.refuses("hand 2 3 0 1", Given.ARGUMENT);
        e.refuses("hand 4 3 1 1", Given.STATE);
        e.refuses("hand 2 4 1 1", Given.STATE);
        e.refuses("hand 2 3 4 1", Given.STATE);
        e.refuses("forgive 5 2 0", Given.INDEX);
        e.refuses("forgive 2 5 1", Given.INDEX);
        e.refuses("forgive 2 1 0", Given.ARGUMENT);
        e.refuses("forgive 2 1 10000", Given.ARGUMENT);
    }

    private void ofBills() {
        for (String state : new String[] {Given.BROKEN, Given.BROKEN + "draw 2 3 1 1; ".repeat(12)}) {
            e.given(state);
            e.refuses("draw 5 2 0 1", Given.INDEX);
            e.refuses("draw 2 5 1 0", Given.INDEX);
            e.refuses("draw 5 5 1 1", Given.INDEX);
            e.refuses("draw 4 5 1 1", Given.INDEX);
            e.refuses("draw 4 2 0 1", Given.ARGUMENT);
            e.refuses("draw 2 4 1 10", Given.ARGUMENT);
            e.refuses("draw 4 4 1 1", Given.ARGUMENT);
            e.refuses("draw 2 2 1 1", Given.ARGUMENT);
            e.refuses("draw 4 2 1 1", Given.STATE);
        }
        String five = "endorse 0 3; endorse 0 2; endorse 0 3; endorse 0 2; endorse 0 1; ";
        e.given(Given.BROKEN + "draw 2 3 1 1; " + five);
        e.refuses("endorse 1 4", Given.INDEX);
        e.refuses("endorse 0 5", Given.INDEX);
        e.refuses("endorse 0 1", Given.ARGUMENT);
        e.refuses("endorse 0 4", Given.STATE);
        e.given(Given.BROKEN + "draw 2 3 1 1; " + five + "lend 1 3 1; withdraw 3 1 s 1; ");
        e.refuses("endorse 0 1", Given.ARGUMENT);
        e.refuses("endorse 0 2", Given.STATE);
        e.given(Given.BROKEN + "draw 2 3 1 1; " + five + "nextDay; ");
        e.refuses("endorse 0 5", Given.INDEX);
        e.refuses("endorse 0 2", Given.STATE);
    }

    private void ofVoyages() {
        e.given(Given.HARBOUR + "addHouse b; addShare 0 4 1; addShare 0 2 1; lend 4 3 1; withdraw 3 4 s 1; ");
        e.refuses("addShare 4 2 0", Given.INDEX);
        e.refuses("addShare 0 5 0", Given.INDEX);
        e.refuses("addShare 4 4 1", Given.INDEX);
        e.refuses("addShare 0 4 100", Given.ARGUMENT);
        e.refuses("throwOver 4 2 0", Given.INDEX);
        e.refuses("throwOver 0 5 1", Given.INDEX);
        e.refuses("throwOver 4 4 1", Given.INDEX);
        e.refuses("throwOver 0 2 0", Given.ARGUMENT);
        e.refuses("throwOver 0 4 100", Given.ARGUMENT);
        e.refuses("throwOver 1 2 100", Given.ARGUMENT);
        e.refuses("throwOver 0 3 1", Given.STATE);
        e.refuses("throwOver 1 4 1", Given.STATE);
    }
}
