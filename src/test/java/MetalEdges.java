/** Promises 4 to 9: dig, decree, mint, clip, hoard, recoin. */
final class MetalEdges {
    private final Edges e;

    MetalEdges(Edges edges) {
        e = edges;
    }

    void tell() {
        dig();
        digRefused();
        decree();
        mint();
        mintRefused();
        mintUnsupported();
        clip();
        clipRefused();
        hoard();
        hoardRefused();
        recoin();
        recoinRefused();
    }

    private void dig() {
        e.section("Promise 4: dig");
        e.says("Digs ore.");
        e.given(Given.HARBOUR);
        e.answers("dig 2 g 7", 7);
        e.then("ore 2 g", 7);
        e.then("ore 2 s", 0);
        e.then("ore 3 g", 0);
        e.then("ore 0 g", 0);
        e.then("coins 2 g", 0);
        e.then("wealth 2", 0);
        e.then("isSound", true);
        e.answers("dig 0 g 3", 3);
        e.answers("dig 1 s 4", 4);

        e.says("- `metal`: 'g' or 's'");
        e.given(Given.HARBOUR);
        e.answers("dig 2 g 7", 7);
        e.then("dig 2 s 8", 8);
        e.then("ore 2 g", 7);
        e.then("ore 2 s", 8);

        e.says("- `weight`: the weight, 1 to 99");
        e.given(Given.HARBOUR);
        e.answers("dig 2 g 1", 1);
        e.answers("dig 2 s 1", 1);
        e.answers("dig 2 g 99", 99);
        e.answers("dig 2 s 99", 99);
        e.refusesEach("dig 2 g ?", Given.ARGUMENT, Given.outside(99));

        e.says("Returns the weight of its ore of this metal then.");
        e.given(Given.HARBOUR + "dig 2 g 5; dig 2 s 8; dig 3 g 9");
        e.answers("dig 2 g 99", 104);
        e.then("dig 2 s 1", 9);
        e.then("dig 3 g 1", 10);
        e.then("dig 2 g 1", 105);
    }

    private void digRefused() {
        e.says("Throws `IndexOutOfBoundsException` if there is no such house");
        e.given(Given.BROKEN);
        e.answers("dig 0 g 1", 1);
        e.answers("dig 3 g 1", 1);
        e.refusesEach("dig ? g 1", Given.INDEX, Given.NO_HOUSES);
        e.refusesEach("dig ? x 1", Given.INDEX, Given.NO_HOUSES);
        e.refusesEach("dig ? g 0", Given.INDEX, Given.NO_HOUSES);
        e.refusesEach("dig ? s 100", Given.INDEX, Given.NO_HOUSES);

        e.says("Throws `IllegalArgumentException` if there is no such metal, or a number is out of range");
        e.given(Given.BROKEN);
        e.refusesEach("dig 2 ? 1", Given.ARGUMENT, Given.NO_METALS);
        e.refusesEach("dig 4 ? 1", Given.ARGUMENT, Given.NO_METALS);
        e.refusesEach("dig 2 s ?", Given.ARGUMENT, Given.outside(99));
        e.refusesEach("dig 4 g ?", Given.ARGUMENT, Given.outside(99));

        e.says("Throws `IllegalStateException` if it failed");
        e.given(Given.BROKEN);
        e.refuses("dig 4 g 1", Given.STATE);
        e.refuses("dig 4 s 99", Given.STATE);
        e.answers("dig 1 g 1", 1);
    }

    private void decree() {
        e.section("Promise 5: decree");
        e.says("Tells face and full weight of coins of a metal.");
        e.given(Given.HARBOUR + "dig 2 g 5; mint 2 g 1; dig 2 g 18; dig 2 s 5; mint 2 s 1");
        e.answers("decree g 3 9", 1005);
        e.then("wealth 2", 4);
        e.then("mint 2 g 2", 2);
        e.then("weightOf 2", 9);
        e.then("weightOf 0", 5);
        e.then("lightShare", 1.0f / 4.0f);
        e.then("wealth 2", 10);
        e.then("decree s 2 5", 105);
        e.then("wealth 2", 11);

        e.says("- `metal`: 'g' or 's'");
        e.answers("decree g 2 3", 1005);
        e.then("decree s 4 6", 105);
        e.then("decree g 10 5", 203);
        e.then("decree s 1 5", 406);

        e.says("- `face`: the face, 1 to 99");
        e.answers("decree g 1 5", 1005);
        e.then("decree g 99 5", 105);
        e.then("decree g 1 5", 9905);
        e.refusesEach("decree g ? 5", Given.ARGUMENT, Given.outside(99));
        e.refusesEach("decree s ? 5", Given.ARGUMENT, Given.outside(99));

        e.says("- `weight`: the full weight, 1 to 9");
        e.answers("decree s 1 1", 105);
        e.then("decree s 1 9", 101);
        e.then("decree s 1 1", 109);
        e.refusesEach("decree g 10 ?", Given.ARGUMENT, Given.outside(9));
        e.refusesEach("decree s 1 ?", Given.ARGUMENT, Given.outside(9));

        e.says("Returns 100 times the face plus the weight before.");
        e.given("decree g 99 9; decree s 1 1");
        e.answers("decree g 1 1", 9909);
        e.then("decree s 99 9", 101);
        e.then("decree g 5 4", 101);
        e.then("decree s 6 7", 9909);
        e.then("decree g 5 4", 504);
        e.then("decree s 6 7", 607);

        e.says("Throws `IllegalArgumentException` if there is no such metal, or a number is out of range");
        e.refusesEach("decree ? 1 1", Given.ARGUMENT, Given.NO_METALS);
        e.refusesEach("decree ? 0 10", Given.ARGUMENT, Given.NO_METALS);
        e.refuses("decree g 0 0", Given.ARGUMENT);
        e.refuses("decree s 100 10", Given.ARGUMENT);
        e.refuses("decree g 99 10", Given.ARGUMENT);
        e.refuses("decree s 100 9", Given.ARGUMENT);
    }

    private void mint() {
        e.section("Promise 6: mint");
        e.says("Mints coins.");
        e.given(Given.HARBOUR + "dig 2 g 22; dig 3 g 5");
        e.answers("mint 2 g 4", 0);
        e.then("coins 2 g", 4);
        e.then("coins 2 s", 0);
        e.then("coins 3 g", 0);
        e.then("ore 2 g", 2);
        e.then("ore 3 g", 5);
        for (int coin = 0; coin < 4; coin++) {
            e.then("weightOf " + coin, 5);
            e.then("ownerOf " + coin, 2);
            e.then("owners " + coin, 1);
            e.then("hoard " + coin + " false", false);
        }
        e.then("weightOf 4", Given.INDEX);
        e.then("isSound", true);

        e.says("- `metal`: 'g' or 's'");
        e.given(Given.HARBOUR + "dig 2 g 10; dig 2 s 10");
        e.answers("mint 2 s 1", 0);
        e.then("coins 2 s", 1);
        e.then("coins 2 g", 0);
        e.then("ore 2 s", 5);
        e.then("ore 2 g", 10);
        e.answers("mint 2 g 2", 0);
        e.then("coins 2 g", 2);
        e.then("coins 2 s", 0);

        e.says("- `many`: how many coins, 1 to 90");
        e.given(Given.ORE);
        e.answers("mint 2 g 1", 0);
        e.then("coins 2 g", 1);
        e.answers("mint 2 g 90", 0);
        e.then("coins 2 g", 90);
        e.then("weightOf 89", 5);
        e.then("ownerOf 89", 2);
        e.then("weightOf 90", Given.INDEX);
        e.refusesEach("mint 2 g ?", Given.ARGUMENT, Given.outside(90));

        e.says("Returns the number of the first one.");
        e.given(Given.HARBOUR + "dig 2 g 99; dig 3 s 99; mint 3 s 2");
        e.answers("mint 2 g 3", 2);
        e.then("mint 3 s 1", 5);
        e.then("recoin 3 s", 19);
        e.then("mint 2 g 1", 25);
    }

    private void mintRefused() {
        e.says("Throws `IndexOutOfBoundsException` if there is no such house");
        e.given(Given.ORE);
        e.refusesEach("mint ? g 1", Given.INDEX, Given.NO_HOUSES);
        e.refusesEach("mint ? x 1", Given.INDEX, Given.NO_HOUSES);
        e.refusesEach("mint ? g 0", Given.INDEX, Given.NO_HOUSES);
        e.refusesEach("mint ? g 91", Given.INDEX, Given.NO_HOUSES);
        e.given(Given.HARBOUR + "dig 0 g 5; dig 3 g 5");
        e.answers("mint 0 g 1", 0);
        e.answers("mint 3 g 1", 0);
        e.refuses("mint 4 g 1", Given.INDEX);

        e.says("Throws `IllegalArgumentException` if there is no such metal, or a number is out of range");
        e.given(Given.ORE);
        e.refusesEach("mint 2 ? 1", Given.ARGUMENT, Given.NO_METALS);
        e.refusesEach("mint 4 ? 1", Given.ARGUMENT, Given.NO_METALS);
        e.refusesEach("mint 4 g ?", Given.ARGUMENT, Given.outside(90));
        e.refusesEach("mint 3 g ?", Given.ARGUMENT, Given.outside(90));
        e.refuses("mint 2 x 91", Given.ARGUMENT);
        e.given(Given.FULL);
        e.refusesEach("mint 2 g ?", Given.ARGUMENT, Given.outside(90));

        e.says("Throws `IllegalStateException` if it failed");
        e.given(Given.BROKEN);
        e.refuses("mint 4 g 1", Given.STATE);
        e.refuses("mint 4 s 90", Given.STATE);
        e.given(Given.FULL);
        e.refuses("mint 4 g 1", Given.STATE);
        e.given(Given.HARBOUR + "dig 1 g 5");
        e.answers("mint 1 g 1", 0);
    }

    private void mintUnsupported() {
        e.says("Throws `UnsupportedOperationException` if its ore is not enough, or there would be more than 90 coins");
        e.given(Given.HARBOUR + "dig 2 g 9; dig 2 s 99; dig 3 g 99");
        e.answers("mint 2 g 1", 0);
        e.then("mint 2 g 1", Given.UNSUPPORTED);
        e.refuses("mint 2 g 2", Given.UNSUPPORTED);
        e.refuses("mint 2 g 90", Given.UNSUPPORTED);
        e.refuses("mint 0 g 1", Given.UNSUPPORTED);
        e.given(Given.HARBOUR + "dig 2 g 10");
        e.answers("mint 2 g 2", 0);
        e.then("ore 2 g", 0);
        e.refuses("mint 2 g 3", Given.UNSUPPORTED);
        e.given(Given.HARBOUR + "dig 2 g 9; decree g 10 9");
        e.answers("mint 2 g 1", 0);
        e.refuses("mint 2 g 2", Given.UNSUPPORTED);
        e.given(Given.HARBOUR + "dig 2 g 8; decree g 10 9");
        e.refuses("mint 2 g 1", Given.UNSUPPORTED);
        e.given(Given.HARBOUR + "dig 2 g 9; decree g 10 1");
        e.answers("mint 2 g 9", 0);
        e.refuses("mint 2 g 10", Given.UNSUPPORTED);
        e.given(Given.ORE + "mint 2 g 88");
        e.answers("mint 2 g 1", 88);
        e.answers("mint 2 g 2", 88);
        e.refuses("mint 2 g 3", Given.UNSUPPORTED);
        e.given(Given.FULL);
        e.refuses("mint 2 g 1", Given.UNSUPPORTED);
        e.refuses("mint 2 g 90", Given.UNSUPPORTED);
        // Numbers of coins that were melted are not free again.
        e.given(Given.FULL + "recoin 2 g");
        e.refuses("mint 2 g 1", Given.UNSUPPORTED);
        e.asks("ore 2 g", 460);
    }

    private void clip() {
        e.section("Promise 7: clip");
        e.says("Clips a coin.");
        e.given(Given.COINS);
        e.answers("clip 0 2", 3);
        e.then("weightOf 0", 3);
        e.then("weightOf 1", 5);
        e.then("ore 2 g", 12);
        e.then("ore 2 s", 2);
        e.then("ownerOf 0", 2);
        e.then("owners 0", 1);
        e.then("coins 2 g", 4);
        e.then("wealth 2", 42);
        e.then("isSound", true);
        e.answers("clip 5 1", 4);
        e.then("ore 2 s", 3);
        e.then("ore 2 g", 10);

        e.says("- `weight`: the weight that is taken, 1 to 9");
        e.given(Given.BROKEN + "decree g 10 9; dig 2 g 9; mint 2 g 1");
        e.answers("clip 0 1", 8);
        e.answers("clip 0 8", 1);
        // A coin of weight 9 can not lose 9, but 9 is within the range.
        e.refuses("clip 0 9", Given.UNSUPPORTED);
        e.refusesEach("clip 0 ?", Given.ARGUMENT, Given.outside(9));

        e.says("Returns the weight that is left.");
        e.given(Given.BROKEN + "decree s 1 9; dig 2 s 9; mint 2 s 1");
        e.answers("clip 0 1", 8);
        e.then("clip 0 3", 5);
        e.then("clip 0 4", 1);
        e.then("weightOf 0", 1);
        e.then("ore 2 s", 8);
    }

    private void clipRefused() {
        e.says("Throws `IndexOutOfBoundsException` if there never was such a coin");
        e.refusesEach("clip ? 1", Given.INDEX, "0", "-1", "89", "90", "min", "max");
        e.given(Given.COINS);
        e.answers("clip 5 1", 4);
        e.refusesEach("clip ? 1", Given.INDEX, "6", "-1", "90", "min", "max");
        e.refusesEach("clip ? 0", Given.INDEX, "6", "-1", "90", "min", "max");
        e.refusesEach("clip ? 10", Given.INDEX, "6", "-1", "90", "min", "max");
        e.given(Given.FULL);
        e.answers("clip 89 1", 4);
        e.refusesEach("clip ? 1", Given.INDEX, "90", "91", "-1");

        e.says("Throws `IllegalArgumentException` if the number is out of range");
        e.given(Given.COINS);
        e.refusesEach("clip 0 ?", Given.ARGUMENT, Given.outside(9));
        e.given(Given.MELTED);
        e.refusesEach("clip 0 ?", Given.ARGUMENT, Given.outside(9));

        e.says("Throws `UnsupportedOperationException` if it was melted, or less than 1 would be left");
        e.given(Given.MELTED);
        e.refusesEach("clip 0 ?", Given.UNSUPPORTED, "1", "4", "9");
        e.given(Given.COINS);
        e.answers("clip 0 4", 1);
        e.then("clip 0 1", Given.UNSUPPORTED);
        e.refusesEach("clip 0 ?", Given.UNSUPPORTED, "5", "6", "9");
        e.given(Given.COINS + "clip 0 4");
        e.refusesEach("clip 0 ?", Given.UNSUPPORTED, "1", "2", "9");
        e.given(Given.BROKEN + "decree g 10 1; dig 2 g 1; mint 2 g 1");
        e.refuses("clip 0 1", Given.UNSUPPORTED);
    }

    private void hoard() {
        e.section("Promise 8: hoard");
        e.says("Sets whether a coin is hoarded.");
        e.given(Given.COINS);
        e.answers("hoard 0 true", false);
        e.then("pay 2 3 g 3", 15);
        e.then("ownerOf 0", 2);
        e.then("pay 2 3 g 1", Given.UNSUPPORTED);
        e.then("hoard 0 false", true);
        e.then("pay 2 3 g 1", 5);
        e.then("isSound", true);

        e.says("Returns whether it was.");
        e.given(Given.COINS);
        e.answers("hoard 1 false", false);
        e.then("hoard 1 true", false);
        e.then("hoard 1 true", true);
        e.then("hoard 0 true", false);
        e.then("hoard 1 false", true);
        e.then("hoard 1 false", false);
        e.then("hoard 0 false", true);
    }

    private void hoardRefused() {
        e.says("Throws `IndexOutOfBoundsException` if there never was such a coin");
        e.refusesEach("hoard ? true", Given.INDEX, "0", "-1", "89", "90", "min", "max");
        e.given(Given.COINS);
        e.answers("hoard 5 true", false);
        e.refusesEach("hoard ? true", Given.INDEX, "6", "-1", "90", "min", "max");
        e.refusesEach("hoard ? false", Given.INDEX, "6", "-1", "90", "min", "max");
        e.given(Given.FULL);
        e.answers("hoard 89 true", false);
        e.then("hoard 89 true", true);
        e.refuses("hoard 90 true", Given.INDEX);

        e.says("Throws `UnsupportedOperationException` if it was melted");
        e.given(Given.MELTED);
        e.refuses("hoard 0 true", Given.UNSUPPORTED);
        e.refuses("hoard 0 false", Given.UNSUPPORTED);
    }

    private void recoin() {
        e.section("Promise 9: recoin");
        e.says("Melts coins and mints new ones.");
        e.given(Given.COINS + "clip 0 3");
        e.answers("recoin 2 g", 6);
        e.then("coins 2 g", 6);
        e.then("ore 2 g", 0);
        e.then("weightOf 0", 0);
        e.then("ownerOf 3", -1);
        e.then("weightOf 4", 5);
        e.then("weightOf 6", 5);
        e.then("ownerOf 11", 2);
        e.then("owners 11", 1);
        e.then("hoard 11 false", false);
        e.then("weightOf 12", Given.INDEX);
        e.then("lightShare", 0.0f);
        e.then("isSound", true);

        e.says("- `metal`: 'g' or 's'");
        e.given(Given.COINS);
        e.answers("recoin 2 s", 2);
        e.then("coins 2 s", 2);
        e.then("weightOf 4", 0);
        e.then("weightOf 3", 5);
        e.then("ore 2 s", 2);
        e.then("recoin 2 g", 6);

        e.says("Returns how many new ones there are.");
        e.given(Given.COINS + "decree g 10 9; decree s 1 9");
        e.answers("recoin 2 g", 3);
        e.then("ore 2 g", 3);
        e.answers("recoin 2 s", 1);
        e.then("ore 2 s", 3);
        e.answers("recoin 3 s", 0);
        e.given(Given.HARBOUR + "dig 2 g 4");
        e.answers("recoin 2 g", 0);
        e.then("dig 2 g 1", 5);
        e.then("recoin 2 g", 1);
        e.then("recoin 2 g", 1);
        e.then("ownerOf 0", -1);
        e.then("ownerOf 1", 2);
        e.given(Given.ORE);
        e.answers("recoin 2 g", 90);
        e.then("ore 2 g", 10);
        e.then("recoin 2 g", 0);
        e.then("ore 2 g", 460);
    }

    private void recoinRefused() {
        e.says("Throws `IndexOutOfBoundsException` if there is no such house");
        e.given(Given.COINS);
        e.answers("recoin 0 g", 0);
        e.answers("recoin 3 g", 0);
        e.refusesEach("recoin ? g", Given.INDEX, Given.NO_HOUSES);
        e.refusesEach("recoin ? x", Given.INDEX, Given.NO_HOUSES);

        e.says("Throws `IllegalArgumentException` if there is no such metal");
        e.given(Given.COINS);
        e.refusesEach("recoin 2 ?", Given.ARGUMENT, Given.NO_METALS);
        e.refusesEach("recoin 4 ?", Given.ARGUMENT, Given.NO_METALS);

        e.says("Throws `IllegalStateException` if it failed");
        e.given(Given.COINS);
        e.refuses("recoin 4 g", Given.STATE);
        e.refuses("recoin 4 s", Given.STATE);
        e.answers("recoin 1 g", 0);
    }
}
