/** Promises 21 and 22: addShare, throwOver. */
final class VoyageEdges {
    private static final String[] NO_VOYAGES = {"-1", "4", "5", "min", "max"};
    /** In the voyage 1 the traders have shares of 4 and 2; in the voyage 3 the bank that failed has one, too. */
    private static final String SHARED = Given.HARBOUR + "addHouse b; addShare 3 4 5; addShare 3 2 5; lend 4 3 1; "
            + "withdraw 3 4 s 1; forgive 0 3 1; addShare 1 2 4; addShare 1 3 2; ";

    private final Edges e;

    VoyageEdges(Edges edges) {
        e = edges;
    }

    void tell() {
        addShare();
        addShareRefused();
        throwOver();
        throwOverRefused();
    }

    private void addShare() {
        e.section("Promise 21: addShare");
        e.says("Adds to the share of a house in a voyage.");
        e.given(Given.BROKEN);
        e.answers("addShare 1 2 30", 30);
        e.then("addShare 1 2 20", 50);
        e.then("addShare 1 3 50", 50);
        e.then("addShare 2 2 7", 7);
        e.then("claim 2 3", 0);
        e.then("wealth 2", 0);
        e.then("throwOver 1 2 10", 5);
        e.then("claim 2 3", 5);

        e.says("- `voyage`: the voyage, 0 to 3");
        e.given(SHARED);
        e.answers("addShare 0 2 1", 1);
        e.then("addShare 3 3 1", 1);
        e.then("addShare 1 2 1", 5);
        e.then("addShare 2 2 1", 1);
        e.refusesEach("addShare ? 2 1", Given.INDEX, NO_VOYAGES);

        e.says("- `value`: the value, 1 to 99");
        e.given(SHARED);
        e.answers("addShare 0 2 1", 1);
        e.then("addShare 0 2 99", 100);
        e.refusesEach("addShare 0 2 ?", Given.ARGUMENT, Given.outside(99));

        e.says("Returns its share then.");
        e.given(SHARED);
        e.answers("addShare 1 2 6", 10);
        e.then("addShare 1 2 99", 109);
        e.then("addShare 1 3 1", 3);
        e.then("addShare 1 0 1", 1);
    }

    private void addShareRefused() {
        e.says("Throws `IndexOutOfBoundsException` if there is no such voyage or house");
        e.given(SHARED);
        for (String value : new String[] {"1", "0", "100"}) {
            e.refusesEach("addShare ? 2 " + value, Given.INDEX, NO_VOYAGES);
            e.refusesEach("addShare ? 4 " + value, Given.INDEX, NO_VOYAGES);
            e.refusesEach("addShare 1 ? " + value, Given.INDEX, Given.NO_HOUSES);
            e.refusesEach("addShare 4 ? " + value, Given.INDEX, Given.NO_HOUSES);
        }

        e.says("Throws `IllegalArgumentException` if the number is out of range");
        e.given(SHARED);
        e.refusesEach("addShare 1 2 ?", Given.ARGUMENT, Given.outside(99));
        e.refusesEach("addShare 1 4 ?", Given.ARGUMENT, Given.outside(99));

        e.says("Throws `IllegalStateException` if it failed");
        e.given(SHARED);
        e.refuses("addShare 1 4 1", Given.STATE);
        e.refuses("addShare 3 4 99", Given.STATE);
        // That another one who has a share failed is no matter here.
        e.answers("addShare 3 2 1", 6);
    }

    private void throwOver() {
        e.section("Promise 22: throwOver");
        e.says("Throws goods of a house over.");
        e.given(SHARED);
        e.answers("throwOver 1 2 6", 4);
        e.then("claim 2 3", 2);
        e.then("claim 3 2", 0);
        e.then("claim 2 0", 0);
        e.then("claim 2 2", 0);
        e.then("wealth 2", 2);
        e.then("wealth 3", -2);
        e.then("isSound", true);

        e.says("- `voyage`: the voyage, 0 to 3");
        e.given(Given.BROKEN + "addShare 0 2 1; addShare 3 2 1");
        e.answers("throwOver 0 2 7", 7);
        e.answers("throwOver 3 2 7", 7);
        e.refuses("throwOver 1 2 7", Given.UNSUPPORTED);
        e.refusesEach("throwOver ? 2 7", Given.INDEX, NO_VOYAGES);

        e.says("- `loss`: the loss, 1 to 99");
        e.given(SHARED);
        e.answers("throwOver 1 2 1", 1);
        e.then("claim 2 3", 0);
        e.answers("throwOver 1 2 99", 66);
        e.then("claim 2 3", 33);
        e.refusesEach("throwOver 1 2 ?", Given.ARGUMENT, Given.outside(99));

        e.says("Returns what it bears itself.");
        e.given(SHARED);
        e.answers("throwOver 1 2 9", 6);
        e.answers("throwOver 1 3 9", 3);
        e.answers("throwOver 1 3 1", 0);
        e.given(Given.BROKEN + "addShare 0 3 99");
        e.answers("throwOver 0 3 99", 99);
        e.then("wealth 3", 0);
    }

    private void throwOverRefused() {
        e.says("Throws `IndexOutOfBoundsException` if there is no such voyage or house");
        e.given(SHARED);
        for (String loss : new String[] {"1", "0", "100"}) {
            e.refusesEach("throwOver ? 2 " + loss, Given.INDEX, NO_VOYAGES);
            e.refusesEach("throwOver ? 4 " + loss, Given.INDEX, NO_VOYAGES);
            e.refusesEach("throwOver ? 0 " + loss, Given.INDEX, NO_VOYAGES);
            e.refusesEach("throwOver 1 ? " + loss, Given.INDEX, Given.NO_HOUSES);
            e.refusesEach("throwOver 3 ? " + loss, Given.INDEX, Given.NO_HOUSES);
        }

        e.says("Throws `IllegalArgumentException` if the number is out of range");
        e.given(SHARED);
        for (String place : new String[] {"1 2", "1 4", "3 2", "3 4", "3 0", "1 0", "0 2"}) {
            e.refusesEach("throwOver " + place + " ?", Given.ARGUMENT, Given.outside(99));
        }

        e.says("Throws `IllegalStateException` if it, or one who has a share, failed");
        e.given(SHARED);
        // It failed, with a share and without one; one who has a share failed; both with no share of its own.
        e.refuses("throwOver 3 4 1", Given.STATE);
        e.refuses("throwOver 1 4 1", Given.STATE);
        e.refuses("throwOver 3 2 1", Given.STATE);
        e.refuses("throwOver 3 0 99", Given.STATE);
        e.answers("throwOver 1 2 3", 2);

        e.says("Throws `UnsupportedOperationException` if it has no share");
        e.given(SHARED);
        e.refuses("throwOver 1 0 1", Given.UNSUPPORTED);
        e.refuses("throwOver 1 1 99", Given.UNSUPPORTED);
        e.refuses("throwOver 0 2 1", Given.UNSUPPORTED);
        e.refuses("throwOver 2 3 1", Given.UNSUPPORTED);
        e.given(SHARED + "addShare 1 0 1");
        e.answers("throwOver 1 0 7", 1);
    }
}
