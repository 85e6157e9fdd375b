/** Promises 1 to 3: a new object, addHouse, kindOf. */
final class HouseEdges {
    private static final String SIX = Given.HARBOUR + "addHouse b; addHouse t; ";

    private final Edges e;

    HouseEdges(Edges edges) {
        e = edges;
    }

    void tell() {
        newObject();
        addHouse();
        addHouseRefused();
        kindOf();
    }

    private void newObject() {
        e.section("Promise 1: A new object");
        e.says("Creates a state with the crown alone.");
        e.asks("kindOf 0", "c");
        e.refuses("kindOf 1", Given.INDEX);
        for (String metal : new String[] {"g", "s"}) {
            e.asks("coins 0 " + metal, 0);
            e.asks("ore 0 " + metal, 0);
        }
        e.asks("claim 0 0", 0);
        e.asks("wealth 0", 0);
        e.asks("lost", 0);
        e.asks("isSound", true);
        e.refuses("lightShare", Given.ARITHMETIC);
        e.refuses("meanWeight", Given.ARITHMETIC);
        e.refuses("weightOf 0", Given.INDEX);
        e.refuses("hoard 0 true", Given.INDEX);
        e.refuses("holderOf 0", Given.INDEX);
        e.refuses("throwOver 0 0 1", Given.UNSUPPORTED);
        e.refuses("throwOver 3 0 1", Given.UNSUPPORTED);
        e.answers("nextDay", 0);
        e.answers("decree g 1 1", 1005);
        e.answers("decree s 1 1", 105);
        e.answers("addHouse t", 1);
        e.answers("recoin 0 g", 0);
    }

    private void addHouse() {
        e.section("Promise 2: addHouse");
        e.says("Adds a house.");
        e.answers("addHouse b", 1);
        e.then("kindOf 1", "b");
        e.then("kindOf 2", Given.INDEX);
        e.then("addHouse t", 2);
        e.then("kindOf 2", "t");
        e.then("kindOf 1", "b");
        e.then("kindOf 0", "c");
        e.then("wealth 2", 0);
        e.then("coins 2 g", 0);
        e.then("ore 1 s", 0);
        e.then("claim 1 2", 0);
        e.then("isSound", true);

        e.says("- `kind`: 'b' a bank, 't' a trader");
        e.given("addHouse b; addHouse t");
        e.answers("lend 1 2 5", 5);
        e.refuses("lend 2 1 5", Given.ARGUMENT);
        e.asks("kindOf 1", "b");
        e.asks("kindOf 2", "t");

        e.says("Returns the number of the house.");
        e.answers("addHouse t", 1);
        e.then("addHouse b", 2);
        e.then("addHouse b", 3);
        e.then("addHouse t", 4);
        e.then("addHouse t", 5);
    }

    private void addHouseRefused() {
        String[] noKinds = {"c", "x", "a", "s", "u", "B", "T", "g", "#0", "#354", "#372", "#65535"};
        e.says("Throws `IllegalArgumentException` if there is no such kind");
        e.refusesEach("addHouse ?", Given.ARGUMENT, noKinds);
        e.given(SIX);
        e.refusesEach("addHouse ?", Given.ARGUMENT, noKinds);

        e.says("Throws `IllegalStateException` if there are 6 houses");
        e.given(Given.HARBOUR + "addHouse b");
        e.answers("addHouse t", 5);
        e.then("addHouse t", Given.STATE);
        e.answers("addHouse b", 5);
        e.then("addHouse b", Given.STATE);
        e.given(SIX);
        e.refuses("addHouse t", Given.STATE);
        e.refuses("addHouse b", Given.STATE);
        e.given(Given.BROKEN + "addHouse t");
        e.refuses("addHouse b", Given.STATE);
    }

    private void kindOf() {
        e.section("Promise 3: kindOf");
        e.says("Returns the kind of a house.");
        e.given("addHouse t; addHouse b; addHouse b; addHouse t; addHouse b");
        String[] kinds = {"c", "t", "b", "b", "t", "b"};
        for (int house = 0; house < kinds.length; house++) {
            e.asks("kindOf " + house, kinds[house]);
        }

        e.says("Returns 'c' the crown, 'b', 't', or 'x' if it failed.");
        e.given(Given.BROKEN);
        e.asks("kindOf 0", "c");
        e.asks("kindOf 1", "b");
        e.asks("kindOf 2", "t");
        e.asks("kindOf 3", "t");
        e.asks("kindOf 4", "x");

        e.says("Throws `IndexOutOfBoundsException` if there is no such house");
        e.asks("kindOf 0", "c");
        e.refusesEach("kindOf ?", Given.INDEX, "1", "-1", "min", "max");
        e.given(SIX);
        e.asks("kindOf 5", "t");
        e.refusesEach("kindOf ?", Given.INDEX, "6", "-1", "min", "max");
        e.given(Given.BROKEN);
        e.asks("kindOf 4", "x");
        e.refusesEach("kindOf ?", Given.INDEX, Given.NO_HOUSES);
    }
}
