/** Promises 23 to 32: coins, weightOf, ownerOf, owners, ore, wealth, lost, lightShare, meanWeight, isSound. */
final class AskedEdges {
    private static final String[] NO_COINS = {"6", "-1", "89", "90", "min", "max"};

    private final Edges e;

    AskedEdges(Edges edges) {
        e = edges;
    }

    void tell() {
        coins();
        weightOf();
        ownerOf();
        owners();
        ore();
        wealth();
        lost();
        lightShare();
        meanWeight();
        isSound();
    }

    private void coins() {
        e.section("Promise 23: coins");
        e.says("Returns how many coins of a metal a house has, those that are hoarded, too.");
        e.given(Given.COINS + "hoard 0 true; hoard 1 true; hoard 4 true; hoard 5 true; pay 2 3 g 1");
        e.asks("coins 2 g", 3);
        e.asks("coins 2 s", 2);
        e.asks("coins 3 g", 1);
        e.asks("coins 3 s", 0);

        e.says("- `metal`: 'g' or 's'");
        e.given(Given.COINS);
        e.asks("coins 2 g", 4);
        e.asks("coins 2 s", 2);

        e.says("Returns the number of coins.");
        e.given(Given.COINS + "recoin 2 g");
        e.asks("coins 2 g", 6);
        e.asks("coins 2 s", 2);
        e.asks("coins 0 g", 0);
        e.asks("coins 4 g", 0);
        e.given(Given.FULL);
        e.asks("coins 2 g", 90);
        e.given(Given.FULL + "recoin 2 g");
        e.asks("coins 2 g", 0);

        e.says("Throws `IndexOutOfBoundsException` if there is no such house");
        e.given(Given.COINS);
        e.refusesEach("coins ? g", Given.INDEX, Given.NO_HOUSES);
        e.refusesEach("coins ? x", Given.INDEX, Given.NO_HOUSES);

        e.says("Throws `IllegalArgumentException` if there is no such metal");
        e.given(Given.COINS);
        e.refusesEach("coins 2 ?", Given.ARGUMENT, Given.NO_METALS);
        e.refusesEach("coins 4 ?", Given.ARGUMENT, Given.NO_METALS);
    }

    private void weightOf() {
        e.section("Promise 24: weightOf");
        e.says("Returns the weight of a coin.");
        e.given(Given.COINS + "clip 0 2; clip 5 4");
        e.asks("weightOf 0", 3);
        e.asks("weightOf 1", 5);
        e.asks("weightOf 5", 1);
        e.given(Given.BROKEN + "dig 2 g 10; decree g 10 9; mint 2 g 1; decree g 10 1; mint 2 g 1");
        e.asks("weightOf 0", 9);
        e.asks("weightOf 1", 1);

        e.says("Returns the weight, 0 if it was melted.");
        e.given(Given.MELTED);
        e.asks("weightOf 0", 0);
        e.given(Given.COINS + "hoard 1 true; recoin 2 g");
        e.asks("weightOf 0", 0);
        e.asks("weightOf 1", 5);
        e.asks("weightOf 3", 0);
        e.asks("weightOf 4", 5);
        e.asks("weightOf 6", 5);

        e.says("Throws `IndexOutOfBoundsException` if there never was such a coin");
        neverWas("weightOf");
        e.given(Given.FULL);
        e.asks("weightOf 89", 5);
        e.refusesEach("weightOf ?", Given.INDEX, "90", "91", "-1");
    }

    private void neverWas(String call) {
        e.refusesEach(call + " ?", Given.INDEX, "0", "1", "-1", "89", "90", "min", "max");
        e.given(Given.COINS);
        e.refusesEach(call + " ?", Given.INDEX, NO_COINS);
        e.given(Given.MELTED);
        e.refusesEach(call + " ?", Given.INDEX, "1", "-1");
    }

    private void ownerOf() {
        e.section("Promise 25: ownerOf");
        e.says("Returns the owner of a coin.");
        e.given(Given.COINS + "pay 2 0 g 1; pay 2 1 g 1; pay 2 3 s 1");
        e.asks("ownerOf 0", 0);
        e.asks("ownerOf 1", 1);
        e.asks("ownerOf 2", 2);
        e.asks("ownerOf 4", 3);
        e.asks("ownerOf 5", 2);

        e.says("Returns the house, -1 if it was melted.");
        e.given(Given.MELTED);
        e.asks("ownerOf 0", -1);
        e.given(Given.COINS + "hoard 1 true; recoin 2 g");
        e.asks("ownerOf 0", -1);
        e.asks("ownerOf 1", 2);
        e.asks("ownerOf 4", 2);

        e.says("Throws `IndexOutOfBoundsException` if there never was such a coin");
        neverWas("ownerOf");
        e.given(Given.FULL);
        e.asks("ownerOf 89", 2);
        e.refusesEach("ownerOf ?", Given.INDEX, "90", "91", "-1");
    }

    private void owners() {
        e.section("Promise 26: owners");
        e.says("Returns how many owners a coin had, the one who minted it counted, each time it was given.");
        e.given(Given.COINS + "pay 2 3 g 4; pay 3 2 g 1; pay 2 0 g 1; pay 0 2 g 1");
        e.asks("owners 0", 5);
        e.asks("owners 1", 2);
        e.asks("owners 4", 1);
        e.given(Given.DEPOSITED + "withdraw 2 1 g 1");
        e.asks("owners 0", 3);
        e.asks("owners 1", 2);
        e.asks("owners 3", 1);

        e.says("Returns the number of owners.");
        e.given(Given.MELTED);
        e.asks("owners 0", 2);
        e.given(Given.COINS + "clip 0 1; hoard 0 true; hoard 0 false");
        e.asks("owners 0", 1);

        e.says("Throws `IndexOutOfBoundsException` if there never was such a coin");
        neverWas("owners");
        e.given(Given.FULL);
        e.asks("owners 89", 1);
        e.refusesEach("owners ?", Given.INDEX, "90", "91", "-1");
    }

    private void ore() {
        e.section("Promise 27: ore");
        e.says("Returns the ore of a house.");
        e.given(Given.COINS + "dig 0 s 7; dig 1 g 9");
        e.asks("ore 0 s", 7);
        e.asks("ore 0 g", 0);
        e.asks("ore 1 g", 9);
        e.asks("ore 2 g", 10);
        e.asks("ore 3 g", 0);
        e.asks("ore 4 g", 0);

        e.says("- `metal`: 'g' or 's'");
        e.given(Given.COINS);
        e.asks("ore 2 g", 10);
        e.asks("ore 2 s", 2);

        e.says("Returns the weight.");
        e.given(Given.ORE);
        e.asks("ore 2 g", 460);
        e.given(Given.HARBOUR + "dig 2 g 5; mint 2 g 1");
        e.asks("ore 2 g", 0);

        e.says("Throws `IndexOutOfBoundsException` if there is no such house");
        e.given(Given.COINS);
        e.refusesEach("ore ? g", Given.INDEX, Given.NO_HOUSES);
        e.refusesEach("ore ? x", Given.INDEX, Given.NO_HOUSES);

        e.says("Throws `IllegalArgumentException` if there is no such metal");
        e.given(Given.COINS);
        e.refusesEach("ore 2 ?", Given.ARGUMENT, Given.NO_METALS);
        e.refusesEach("ore 4 ?", Given.ARGUMENT, Given.NO_METALS);
    }

    private void wealth() {
        e.section("Promise 28: wealth");
        e.says("Returns what a house has: the faces of its coins as they are now, and its claims, "
                + "less the claims on it.");
        e.given(Given.COINS + "hoard 0 true; clip 1 4");
        e.asks("wealth 2", 42);
        e.given(Given.COINS + "decree g 99 1; decree s 2 9");
        e.asks("wealth 2", 400);
        e.given(Given.COINS + "draw 3 2 60 1; draw 2 0 5 1; draw 0 2 1 1; nextDay");
        e.asks("wealth 2", 42 - 60 + 5 - 1);
        e.asks("wealth 3", 60);
        e.asks("wealth 0", 1 - 5);
        e.given(Given.COINS + "recoin 2 g; dig 2 g 99");
        e.asks("wealth 2", 62);

        e.says("Returns the amount.");
        e.given(Given.BROKEN);
        e.asks("wealth 0", 0);
        e.asks("wealth 4", 0);
        e.given(Given.ORE);
        e.asks("wealth 2", 0);
        e.given(Given.FULL + "decree g 99 1; draw 2 0 9999 1; draw 2 3 9999 1; nextDay");
        e.asks("wealth 2", 90 * 99 + 2 * 9999);
        e.asks("wealth 0", -9999);

        e.says("Throws `IndexOutOfBoundsException` if there is no such house");
        e.given(Given.COINS);
        e.refusesEach("wealth ?", Given.INDEX, Given.NO_HOUSES);
    }

    private void lost() {
        e.section("Promise 29: lost");
        e.says("Returns what was lost of claims.");
        e.given(Given.HARBOUR);
        e.asks("lost", 0);
        e.given(Given.DEPOSITED + "lend 1 3 50; lend 1 0 7; withdraw 3 1 g 4");
        // Coins of 10, 10 and 10 go to the trader 3 with 50, then, of 31, 20 and 7, that of 1 to the trader 2.
        e.asks("lost", 1 + 30 + 20 + 7);

        e.says("Returns the amount.");
        e.given(Given.BROKEN);
        e.asks("lost", 1);
        e.given(Given.HARBOUR + "lend 1 2 9999; lend 1 3 9999; lend 1 0 9999; withdraw 2 1 g 1");
        e.asks("lost", 29997);
        // Neither a claim that is forgiven nor a bill of no worth is lost.
        e.given(Given.HARBOUR + "lend 1 2 5; forgive 2 1 5; forgive 1 2 5; draw 1 2 9 1; lend 1 3 1; "
                + "withdraw 3 1 s 1; nextDay");
        e.asks("lost", 1);
    }

    private void lightShare() {
        e.section("Promise 30: lightShare");
        e.says("Returns the share of the coins that are lighter than the full weight of their metal.");
        e.given(Given.COINS);
        e.asks("lightShare", 0.0f);
        e.given(Given.COINS + "clip 0 1; clip 4 4");
        e.asks("lightShare", 2.0f / 6.0f);
        e.given(Given.COINS + "decree g 10 6");
        e.asks("lightShare", 4.0f / 6.0f);
        e.given(Given.COINS + "decree s 1 6");
        e.asks("lightShare", 2.0f / 6.0f);
        e.given(Given.COINS + "clip 0 1; decree g 10 4");
        e.asks("lightShare", 0.0f);
        e.given(Given.COINS + "decree g 10 6; decree s 1 6");
        e.asks("lightShare", 1.0f);

        e.says("Returns their number divided by that of all that are not melted, both converted to float.");
        e.given(Given.COINS + "clip 0 1; hoard 0 true; recoin 2 g");
        e.asks("lightShare", 1.0f / 8.0f);
        e.given(Given.BROKEN + "dig 2 s 35; mint 2 s 7; clip 6 1");
        e.asks("lightShare", 1.0f / 7.0f);
        e.given(Given.FULL + "clip 0 1; clip 44 1; clip 89 1");
        e.asks("lightShare", 3.0f / 90.0f);

        e.says("Throws `ArithmeticException` if there are none");
        e.given(Given.BROKEN + "dig 2 g 99");
        e.refuses("lightShare", Given.ARITHMETIC);
        e.given(Given.MELTED);
        e.refuses("lightShare", Given.ARITHMETIC);
        e.given(Given.FULL + "recoin 2 g");
        e.refuses("lightShare", Given.ARITHMETIC);
        e.given(Given.FULL + "hoard 89 true; recoin 2 g");
        e.asks("lightShare", 0.0f);
    }

    private void meanWeight() {
        e.section("Promise 31: meanWeight");
        e.says("Returns the mean weight of the coins.");
        e.given(Given.COINS);
        e.asks("meanWeight", 5.0);
        e.given(Given.COINS + "clip 0 1; clip 5 3; hoard 5 true; pay 2 3 g 1");
        e.asks("meanWeight", 26.0 / 6.0);

        e.says("Returns the sum of the weights divided by their number, both converted to double.");
        e.given(Given.BROKEN + "dig 2 s 15; mint 2 s 3; clip 0 1");
        e.asks("meanWeight", 14.0 / 3.0);
        e.given(Given.COINS + "decree s 1 9; dig 2 s 8; recoin 2 s");
        e.asks("meanWeight", 38.0 / 6.0);
        e.given(Given.FULL + "clip 89 4");
        e.asks("meanWeight", 446.0 / 90.0);

        e.says("Throws `ArithmeticException` if there are none");
        e.given(Given.BROKEN + "dig 2 g 99");
        e.refuses("meanWeight", Given.ARITHMETIC);
        e.given(Given.MELTED);
        e.refuses("meanWeight", Given.ARITHMETIC);
        e.given(Given.FULL + "recoin 2 g");
        e.refuses("meanWeight", Given.ARITHMETIC);
        e.given(Given.FULL + "hoard 89 true; recoin 2 g");
        e.asks("meanWeight", 5.0);
    }

    /** No run of calls makes a state that is not sound; SoundTest makes such states in another way. */
    private void isSound() {
        e.section("Promise 32: isSound");
        e.says("Returns whether all is sound: of each metal, what was dug is what ore and coins weigh; the claims "
                + "that houses have add up to those that are on houses, none is less than 0, and none is of or on a "
                + "house that failed; and each coin is where its last giving took it.");
        String[] ofMetal = {"", "dig 2 g 7", "dig 2 s 99; mint 2 s 19", "dig 2 g 9; mint 2 g 1; clip 0 4",
            "dig 2 g 99; mint 2 g 9; decree g 10 7; recoin 2 g", "dig 2 s 9; mint 2 s 1; hoard 0 true"};
        for (String state : ofMetal) {
            e.given(Given.HARBOUR + state);
            e.asks("isSound", true);
        }
        String[] ofClaims = {"lend 1 2 9", "forgive 0 3 1", "draw 2 3 9 1; nextDay", "addShare 0 2 9; addShare 0 3 5; "
            + "throwOver 0 2 9", "lend 1 2 9; hand 2 3 1 9", "draw 4 3 1 1; nextDay"};
        for (String state : ofClaims) {
            String failing = "addHouse b; draw 3 4 9 2; lend 4 3 1; lend 4 0 5; lend 1 4 8; lend 4 1 6; ";
            e.given(Given.HARBOUR + failing + state.replace("forgive 0 3 1", "forgive 3 4 1"));
            e.asks("isSound", true);
            e.given(Given.HARBOUR + failing + "withdraw 0 4 s 1; nextDay; " + state.replace("draw 4", "draw 2"));
            e.asks("isSound", true);
        }

        e.says("Returns whether this holds.");
        for (String state : new String[] {"", Given.BROKEN, Given.DEPOSITED, Given.FULL, Given.MELTED}) {
            e.given(state);
            e.asks("isSound", true);
        }
        // A bank that fails leaves nothing of it: coins, ore and claims went on.
        e.given(Given.DEPOSITED + "dig 1 g 9; lend 1 0 9; lend 1 3 40; hoard 0 true; withdraw 3 1 g 3");
        e.asks("isSound", true);
    }
}
