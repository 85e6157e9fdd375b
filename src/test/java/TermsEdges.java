/** "What it is" and "Terms": each sentence by a run of calls, with the edges that it names. */
final class TermsEdges {
    private final Edges e;

    TermsEdges(Edges edges) {
        e = edges;
    }

    void tell() {
        whatItIs();
        e.section("Terms");
        whole();
        houses();
        metal();
        coins();
        minting();
        recoining();
        paying();
        claims();
        failingOrNot();
        failingByWeight();
        failingByClaim();
        failingLeaves();
        bills();
        billsComeDue();
        voyages();
        voyagesPart();
        exceptions();
        new FirstException(e).tell();
        clarifications();
    }

    private void whatItIs() {
        e.section("What it is");
        e.says("A state with a mint, banks and traders, whose money is followed coin by coin and claim by claim: ore is "
                + "dug, coins are minted, clipped, hoarded and recoined, and the lightest are paid first; banks take "
                + "coins and lend, and fail when they cannot pay; claims are parted by order; bills are drawn and "
                + "endorsed and come due; losses at sea are borne by shares.");
        e.given(Given.HARBOUR);
        e.answers("dig 2 g 24", 24);
        e.then("mint 2 g 4", 0);
        e.then("clip 3 2", 3);
        e.then("hoard 0 true", false);
        e.then("pay 2 3 g 1", 3);
        e.then("deposit 2 1 g 2", 20);
        e.then("lend 1 3 15", 15);
        e.then("recoin 2 g", 1);
        e.then("ore 2 g", 1);
        e.then("draw 3 2 4 1", 0);
        e.then("endorse 0 0", 3);
        e.then("nextDay", 1);
        e.then("claim 0 2", 4);
        e.then("addShare 0 2 1", 1);
        e.then("addShare 0 3 2", 2);
        e.then("throwOver 0 2 3", 1);
        e.then("claim 2 3", 2);
        e.then("withdraw 3 1 s 1", "x");
        // The coins 1 and 2 go to the claims of 20 and 15, and 10 and 5 of them are lost.
        e.then("ownerOf 1", 2);
        e.then("ownerOf 2", 3);
        e.then("lost", 15);
        e.then("claim 0 3", 15);
        e.then("isSound", true);

        e.says("An object is used for at most 512 calls after it has been made; what later calls answer is free.");
        e.given("dig 0 g 99; ".repeat(511));
        e.answers("dig 0 g 99", 99 * 512);
        e.given(Given.HARBOUR + "lend 1 2 9999; ".repeat(507));
        e.answers("lend 1 2 9999", 9999 * 508);
        e.then("claim 1 2", 9999 * 508);
        e.given(Given.HARBOUR + "addShare 0 3 1; " + "addShare 0 2 99; ".repeat(506));
        e.answers("addShare 0 2 99", 99 * 507);
        e.then("throwOver 0 2 99", 99);
        e.given(Given.HARBOUR + "nextDay; ".repeat(495));
        e.answers("draw 2 3 8 9", 0);
        for (int day = 1; day <= 8; day++) {
            e.then("nextDay", 0);
        }
        e.then("nextDay", 1);
        e.given(Given.HARBOUR + "dig 2 g 5; mint 2 g 1; " + "pay 2 3 g 1; pay 3 2 g 1; ".repeat(252));
        e.answers("owners 0", 505);
    }

    private void whole() {
        e.says("All of it comes by calls; coins, ore, claims and wealth are asked.");
        e.given(Given.DEPOSITED);
        e.asks("coins 2 g", 1);
        e.asks("ore 2 g", 10);
        e.asks("claim 2 1", 31);
        e.asks("wealth 2", 42);

        e.says("The metal is whole, and each claim is the debt of somebody.");
        // Ore and coins of gold weigh the 30 that were dug, and all wealth is that of the coins.
        e.given(Given.DEPOSITED + "clip 0 4; recoin 2 g; lend 1 3 70; dig 1 g 3; withdraw 3 1 g 4");
        e.asks("ore 0 g", 7);
        e.asks("ore 2 g", 0);
        e.asks("weightOf 0", 1);
        e.asks("weightOf 1", 5);
        e.asks("weightOf 2", 5);
        e.asks("coins 2 g", 3);
        e.asks("wealth 0", 70);
        e.asks("wealth 1", 0);
        e.asks("wealth 2", 30 + 1);
        e.asks("wealth 3", 30 + 1 - 70);
        e.asks("isSound", true);
    }

    private void houses() {
        e.says("The house 0 is the crown; at most 5 more are added, banks and traders, numbered as they come.");
        e.answers("kindOf 0", "c");
        e.then("addHouse t", 1);
        e.then("addHouse b", 2);
        e.then("addHouse b", 3);
        e.then("addHouse t", 4);
        e.then("addHouse b", 5);
        e.then("addHouse t", Given.STATE);
        e.then("kindOf 0", "c");
        e.then("kindOf 5", "b");

        e.says("A house is open until it fails.");
        e.given(Given.HARBOUR + "lend 1 2 1");
        e.answers("dig 1 g 1", 1);
        e.then("withdraw 2 1 s 1", "x");
        e.then("dig 1 g 1", Given.STATE);
        e.then("kindOf 1", "x");
        e.then("dig 2 g 1", 1);
    }

    private void metal() {
        e.says("There are gold, 'g', and silver, 's'.");
        e.given(Given.HARBOUR);
        e.answers("dig 2 g 1", 1);
        e.then("dig 2 s 1", 1);
        e.refuses("dig 2 c 1", Given.ARGUMENT);

        e.says("Ore is counted by weight, for each house and metal.");
        e.given(Given.HARBOUR + "addHouse t; addHouse b; dig 0 g 1; dig 0 s 2; dig 1 g 3; dig 1 s 4; dig 2 g 5; "
                + "dig 2 s 6; dig 3 g 7; dig 3 s 8; dig 4 g 9; dig 4 s 10; dig 5 g 11; dig 5 s 12");
        for (int house = 0; house < 6; house++) {
            e.asks("ore " + house + " g", 2 * house + 1);
            e.asks("ore " + house + " s", 2 * house + 2);
        }

        e.says("The crown tells the face of a coin of each metal, 10 and 1 at first, and its full weight, 5 for both "
                + "at first.");
        e.given(Given.HARBOUR + "dig 2 g 5; dig 2 s 5; dig 3 g 4; dig 3 s 4");
        e.answers("mint 2 g 1", 0);
        e.then("wealth 2", 10);
        e.then("mint 2 s 1", 1);
        e.then("wealth 2", 11);
        e.then("decree g 20 4", 1005);
        e.then("decree s 3 4", 105);
        e.then("wealth 2", 23);
        e.then("mint 3 g 1", 2);
        e.then("mint 3 s 1", 3);
        e.refuses("mint 3 g 1", Given.UNSUPPORTED);
        e.refuses("mint 3 s 1", Given.UNSUPPORTED);
    }

    private void coins() {
        e.says("A coin has a metal, a weight, and an owner; at most 90 are numbered from 0, ever.");
        e.given(Given.ORE + "dig 3 s 99; mint 3 s 1; mint 2 g 88");
        e.answers("mint 3 s 1", 89);
        e.then("coins 3 s", 2);
        e.then("weightOf 89", 5);
        e.then("ownerOf 89", 3);
        e.then("weightOf 0", 5);
        e.then("ownerOf 1", 2);
        e.then("mint 3 s 1", Given.UNSUPPORTED);
        e.then("recoin 3 s", 0);
        e.then("mint 3 s 1", Given.UNSUPPORTED);

        e.says("A coin that was melted is no coin any more.");
        e.given(Given.MELTED);
        e.asks("coins 3 g", 0);
        e.asks("coins 2 g", 0);
        e.asks("wealth 3", 0);
        e.refuses("pay 3 2 g 1", Given.UNSUPPORTED);
        e.refuses("clip 0 1", Given.UNSUPPORTED);
        e.refuses("hoard 0 true", Given.UNSUPPORTED);
        e.refuses("meanWeight", Given.ARITHMETIC);
        e.answers("recoin 3 g", 1);
        e.then("recoin 3 g", 1);
        e.then("ore 3 g", 0);

        e.says("Coins can be hoarded by their owner.");
        e.given(Given.DEPOSITED + "hoard 0 true; hoard 3 true");
        e.refuses("pay 2 3 g 1", Given.UNSUPPORTED);
        e.answers("pay 1 3 g 2", 10);
        e.then("ownerOf 0", 1);
        e.refuses("pay 1 3 g 3", Given.UNSUPPORTED);
    }

    private void minting() {
        e.says("Minting takes ore of the owner, the full weight as it is now for each coin.");
        e.given(Given.HARBOUR + "dig 2 g 40; dig 3 g 40");
        e.answers("mint 2 g 2", 0);
        e.then("ore 2 g", 30);
        e.then("decree g 10 9", 1005);
        e.then("mint 2 g 2", 2);
        e.then("ore 2 g", 12);
        e.then("weightOf 1", 5);
        e.then("weightOf 2", 9);
        e.then("decree g 10 1", 1009);
        e.then("mint 2 g 12", 4);
        e.then("ore 2 g", 0);
        e.then("ore 3 g", 40);

        e.says("Clipping takes weight from a coin, which becomes ore of its owner; a weight of 1 stays at least.");
        e.given(Given.COINS + "pay 2 3 g 1");
        e.answers("clip 0 4", 1);
        e.then("ore 3 g", 4);
        e.then("ore 2 g", 10);
        e.then("clip 0 1", Given.UNSUPPORTED);
        e.then("clip 1 5", Given.UNSUPPORTED);
        e.then("clip 1 4", 1);
        e.then("ore 2 g", 14);
        e.then("clip 4 1", 4);
        e.then("ore 2 s", 3);
        e.then("hoard 5 true", false);
        e.then("clip 5 1", 4);
        e.then("hoard 5 true", true);
    }

    private void recoining() {
        e.says("Recoining melts all coins of a house and metal that are not hoarded into ore of it, by rising numbers, "
                + "and mints as many new ones as its ore of this metal gives, and numbers are left for.");
        // Coins 1 and 3 of weight 5 and 2 melt; coin 0 went to another, coin 2 is hoarded; 17 give 4 by 4.
        e.given(Given.COINS + "pay 2 3 g 1; hoard 2 true; clip 3 3; decree g 10 4");
        e.answers("recoin 2 g", 5);
        e.then("ore 2 g", 0);
        e.then("weightOf 0", 5);
        e.then("weightOf 1", 0);
        e.then("weightOf 2", 5);
        e.then("weightOf 3", 0);
        e.then("weightOf 4", 5);
        e.then("weightOf 6", 4);
        e.then("ownerOf 10", 2);
        e.then("ownerOf 11", Given.INDEX);
        e.then("hoard 2 true", true);
        // Ore that is not enough for one more stays.
        e.given(Given.COINS + "decree g 10 8");
        e.answers("recoin 2 g", 3);
        e.then("ore 2 g", 6);
        e.given(Given.COINS + "decree g 10 6");
        e.answers("recoin 2 g", 5);
        e.then("ore 2 g", 0);
        // Of numbers there are two, one and none left.
        e.given(Given.ORE + "mint 2 g 88");
        e.answers("recoin 2 g", 2);
        e.then("ore 2 g", 450);
        e.then("coins 2 g", 2);
        e.given(Given.ORE + "mint 2 g 89");
        e.answers("recoin 2 g", 1);
        e.then("ownerOf 89", 2);
        e.given(Given.FULL);
        e.answers("recoin 2 g", 0);
        e.then("ore 2 g", 460);
        e.then("coins 2 g", 0);
        // All are hoarded; no coin is there at all.
        e.given(Given.COINS + "hoard 4 true; hoard 5 true");
        e.answers("recoin 2 s", 0);
        e.then("coins 2 s", 2);
        e.given(Given.COINS);
        e.answers("recoin 0 g", 0);
    }

    private void paying() {
        e.says("Who pays coins of a metal gives the lightest ones that are not hoarded, of several the ones with the "
                + "lowest numbers.");
        e.given(Given.BROKEN + "dig 2 g 30; mint 2 g 6; clip 1 1; clip 3 4; clip 4 1; hoard 3 true");
        e.answers("pay 2 3 g 1", 4);
        e.then("ownerOf 1", 3);
        e.then("ownerOf 4", 2);
        e.then("pay 2 3 g 2", 9);
        e.then("ownerOf 4", 3);
        e.then("ownerOf 0", 3);
        e.then("ownerOf 2", 2);
        e.then("pay 2 3 g 1", 5);
        e.then("ownerOf 2", 3);
        e.then("ownerOf 5", 2);
        e.then("ownerOf 3", 2);
        e.then("pay 3 0 g 3", 13);
        e.then("ownerOf 1", 0);
        e.then("ownerOf 4", 0);
        e.then("ownerOf 0", 0);
        e.then("ownerOf 2", 3);
        // So do those who bring coins to a bank, and a bank that pays out.
        e.given(Given.COINS + "clip 2 1");
        e.answers("deposit 2 1 g 2", 20);
        e.then("ownerOf 2", 1);
        e.then("ownerOf 0", 1);
        e.then("ownerOf 1", 2);
        e.then("clip 2 1", 3);
        e.then("withdraw 2 1 g 1", "p");
        e.then("ownerOf 2", 2);
        e.then("ownerOf 0", 1);

        e.says("A coin that is given to another house is not hoarded there.");
        e.given(Given.COINS + "hoard 0 true; hoard 0 false");
        e.answers("pay 2 3 g 1", 5);
        e.then("hoard 0 false", false);
        e.then("hoard 0 true", false);
        e.then("pay 3 2 g 1", Given.UNSUPPORTED);
    }

    private void claims() {
        e.says("A house has a claim on another one, an amount that is not less than 0; what both claim of one another "
                + "is not set off.");
        e.given(Given.BROKEN + "draw 2 3 8 1; draw 3 2 5 1; nextDay");
        e.asks("claim 2 3", 8);
        e.asks("claim 3 2", 5);
        e.asks("claim 2 2", 0);
        e.refuses("forgive 3 2 6", Given.UNSUPPORTED);
        e.answers("forgive 3 2 5", 0);
        e.then("claim 2 3", 8);
        e.then("forgive 3 2 1", Given.UNSUPPORTED);
        e.given(Given.BROKEN + "lend 1 2 5; hand 2 3 1 5");
        e.refuses("hand 2 3 1 1", Given.UNSUPPORTED);
        e.refuses("withdraw 2 1 s 1", Given.UNSUPPORTED);

        e.says("Coins that are brought to a bank give a claim on it, by their faces as they are now.");
        e.given(Given.COINS + "clip 0 4");
        e.answers("deposit 2 1 g 1", 10);
        e.then("decree g 7 5", 1005);
        e.then("claim 2 1", 10);
        e.then("deposit 2 1 g 2", 24);
        e.then("decree s 99 5", 105);
        e.then("deposit 2 1 s 1", 123);

        e.says("A loan of a bank gives the borrower a claim on the bank, and the bank one on the borrower.");
        e.given(Given.BROKEN);
        e.answers("lend 1 3 9", 9);
        e.then("claim 3 1", 9);
        e.then("claim 1 3", 9);
        e.then("claim 2 1", 0);
        e.then("claim 1 2", 0);

        e.says("A claim on a bank can be handed to another house.");
        e.given(Given.BROKEN + "lend 1 3 9");
        e.answers("hand 3 2 1 9", 0);
        e.then("claim 2 1", 9);
        e.then("claim 1 3", 9);
        e.then("hand 2 0 1 4", 5);
        e.then("claim 0 1", 4);
    }

    private void failingOrNot() {
        e.says("Who has a claim on a bank can take coins out, by their faces as they are now.");
        e.given(Given.DEPOSITED + "decree g 15 5");
        e.answers("withdraw 2 1 g 2", "p");
        e.then("claim 2 1", 1);
        e.then("withdraw 2 1 g 1", Given.UNSUPPORTED);
        e.then("withdraw 2 1 s 1", "p");
        e.then("claim 2 1", 0);
        e.then("kindOf 1", "b");

        e.says("If the bank has not so many that are not hoarded, it fails instead.");
        e.given(Given.DEPOSITED + "lend 1 2 19");
        e.answers("withdraw 2 1 g 3", "p");
        e.then("claim 2 1", 20);
        e.answers("withdraw 2 1 g 4", "x");
        e.then("kindOf 1", "x");
        e.answers("withdraw 2 1 s 1", "p");
        e.answers("withdraw 2 1 s 2", "x");
        e.given(Given.DEPOSITED + "hoard 0 true; hoard 1 true");
        e.answers("withdraw 2 1 g 1", "p");
        e.answers("withdraw 2 1 g 2", "x");
        e.given(Given.DEPOSITED + "hoard 4 true");
        e.answers("withdraw 2 1 s 1", "x");
    }

    private void failingByWeight() {
        e.says("When a house fails, its coins, those that are hoarded, too, go to those that have claims on it, one by "
                + "one: the heaviest one by its weight, of several gold ahead of silver and then the lowest number, "
                + "to the house with the greatest claim that is left, of several the crown first, then the lowest "
                + "number; this claim becomes less by its face, 0 at least; until none has a claim left.");
        // By weight come 5 (silver, 9), 2 and 3 (gold), 0 (silver), 4 (gold, 4), 1 (silver, 3, hoarded).
        e.given(Given.BROKEN + "dig 1 s 10; mint 1 s 2; dig 1 g 15; mint 1 g 3; decree s 1 9; dig 1 s 9; mint 1 s 1; "
                + "clip 4 1; clip 1 2; hoard 1 true; hoard 3 true; lend 1 2 11; lend 1 3 10; lend 1 0 9; ");
        e.answers("withdraw 2 1 s 11", "x");
        e.then("ownerOf 5", 2);
        // Claims of 9, 10 and 10 are left: the coins 2 and 3 go to 2 and 3, and then 9, 0 and 0.
        e.then("ownerOf 2", 2);
        e.then("ownerOf 3", 3);
        e.then("ownerOf 0", 0);
        e.then("ownerOf 4", 0);
        // No claim is left: the last one goes to the crown for that.
        e.then("ownerOf 1", 0);
        e.then("lost", 1);
        e.then("hoard 3 false", false);
        e.then("isSound", true);
        goesFirst("gold 5, gold 5", 0);
        goesFirst("gold 4, gold 5", 1);
        goesFirst("gold 5, gold 4", 0);
        goesFirst("silver 5, silver 5", 0);
        goesFirst("silver 2, silver 3", 1);
        goesFirst("silver 5, gold 5", 1);
        goesFirst("gold 5, silver 5", 0);
        goesFirst("silver 5, gold 4", 0);
        goesFirst("gold 4, silver 5", 1);
        goesFirst("gold 1, silver 9", 1);
        goesFirst("gold 3, silver 5, gold 5, gold 5", 2);
        goesFirst("gold 5, silver 5, silver 6, silver 6, gold 5", 2);
        goesFirst("silver 1, gold 1, silver 1", 1);
        goesFirst("gold 9", 0);
    }

    /** Of the coins of a bank that fails, all hoarded, one meets the only claim; the crown has the others. */
    private void goesFirst(String coins, int first) {
        StringBuilder calls = new StringBuilder(Given.BROKEN);
        String[] each = coins.split(", ");
        for (int coin = 0; coin < each.length; coin++) {
            char metal = each[coin].charAt(0);
            char weight = each[coin].charAt(each[coin].length() - 1);
            calls.append("decree ").append(metal).append(" 7 ").append(weight).append("; ");
            calls.append("dig 1 ").append(metal).append(' ').append(weight).append("; ");
            calls.append("mint 1 ").append(metal).append(" 1; hoard ").append(coin).append(" true; ");
        }
        e.given(calls.append("lend 1 2 7; decree s 7 5; ").toString());
        e.answers("withdraw 2 1 s 1", "x");
        for (int coin = 0; coin < each.length; coin++) {
            e.then("ownerOf " + coin, coin == first ? 2 : 0);
            e.then("owners " + coin, 2);
            e.then("hoard " + coin + " false", false);
        }
        e.then("lost", 1);
    }

    /** The same sentence: to whom the coins go, and until when. */
    private void failingByClaim() {
        // Of equal claims the crown is first, then the lowest number; each sinks by the face, here 1.
        e.given(Given.BROKEN + "dig 1 s 35; mint 1 s 7; lend 1 3 3; lend 1 2 3; lend 1 0 3; ");
        e.answers("withdraw 3 1 g 1", Given.UNSUPPORTED);
        e.then("decree g 1 5", 1005);
        e.then("withdraw 3 1 g 1", "x");
        int[] owners = {0, 2, 3, 0, 2, 3, 0};
        for (int coin = 0; coin < owners.length; coin++) {
            e.then("ownerOf " + coin, owners[coin]);
        }
        e.then("lost", 1 + 2);
        // A claim that a coin's face is more than is 0 then, and gets no more.
        e.given(Given.BROKEN + "dig 1 g 20; mint 1 g 4; lend 1 3 9; lend 1 2 11; lend 1 0 1; ");
        e.answers("withdraw 2 1 s 1", "x");
        e.then("ownerOf 0", 2);
        e.then("ownerOf 1", 3);
        e.then("ownerOf 2", 0);
        e.then("ownerOf 3", 2);
        e.then("claim 2 1", 0);
        e.then("claim 3 1", 0);
        e.then("lost", 1);
        // The crown has no claim: of equal ones the lowest number is first.
        e.given(Given.BROKEN + "dig 1 g 10; mint 1 g 2; addHouse t; lend 1 5 5; lend 1 3 5; lend 1 2 4; ");
        e.answers("withdraw 2 1 s 1", "x");
        e.then("ownerOf 0", 3);
        e.then("ownerOf 1", 5);
        e.then("lost", 1 + 4);
        // No coin at all; and as many as there can be.
        e.given(Given.BROKEN + "lend 1 2 8; ");
        e.answers("withdraw 2 1 s 1", "x");
        e.then("coins 2 s", 0);
        e.then("lost", 9);
        e.given(Given.FULL + "pay 2 1 g 90; decree g 1 5; lend 1 3 91; ");
        e.answers("withdraw 3 1 s 1", "x");
        e.then("coins 3 g", 90);
        e.then("lost", 2);
    }

    private void failingLeaves() {
        e.says("Then claims on it are 0; what was left of them counts as lost; coins that are left go to the crown, and "
                + "so does its ore; its own claims go to the crown, those on the crown are 0 then, without being lost.");
        e.given(Given.BROKEN + "dig 1 g 13; mint 1 g 2; dig 1 s 7; dig 0 g 1; hoard 1 true; lend 1 2 6; lend 1 0 3; "
                + "forgive 0 1 3; draw 0 2 4 1; nextDay; ");
        e.answers("withdraw 2 1 s 1", "x");
        e.then("ownerOf 0", 2);
        e.then("ownerOf 1", 0);
        e.then("hoard 1 false", false);
        e.then("ore 0 g", 4);
        e.then("ore 0 s", 7);
        e.then("ore 1 g", 0);
        e.then("ore 1 s", 0);
        e.then("claim 2 1", 0);
        e.then("claim 1 2", 0);
        e.then("claim 1 0", 0);
        e.then("claim 0 2", 10);
        e.then("claim 0 0", 0);
        e.then("lost", 1);
        e.then("wealth 0", 20);
        e.then("wealth 1", 0);
        // What is left of each claim is lost, also that of the crown and of a bank.
        e.given(Given.HARBOUR + "addHouse b; dig 1 g 5; mint 1 g 1; lend 1 2 30; lend 1 0 5; lend 1 4 2; ");
        e.answers("withdraw 2 1 g 3", "x");
        e.then("ownerOf 0", 2);
        e.then("lost", 20 + 5 + 2);
        e.then("claim 2 1", 0);
        e.then("claim 0 1", 0);
        e.then("claim 4 1", 0);
        e.then("claim 0 2", 30);
        e.then("claim 0 4", 2);
        e.then("claim 1 4", 0);
        e.then("isSound", true);

        e.says("A house that failed does nothing any more.");
        e.given(Given.COINS);
        e.refuses("dig 4 g 1", Given.STATE);
        e.refuses("mint 4 g 1", Given.STATE);
        e.refuses("recoin 4 g", Given.STATE);
        e.refuses("pay 4 2 g 1", Given.STATE);
        e.refuses("pay 2 4 g 1", Given.STATE);
        e.refuses("deposit 2 4 g 1", Given.STATE);
        e.refuses("deposit 4 1 g 1", Given.STATE);
        e.refuses("withdraw 2 4 g 1", Given.STATE);
        e.refuses("lend 4 2 1", Given.STATE);
        e.refuses("hand 2 4 1 1", Given.STATE);
        e.refuses("draw 4 2 1 1", Given.STATE);
        e.refuses("draw 2 4 1 1", Given.STATE);
        e.refuses("addShare 0 4 1", Given.STATE);
        e.refuses("throwOver 0 4 1", Given.STATE);
    }

    private void bills() {
        e.says("At most 12 bills are numbered from 0.");
        e.given(Given.BROKEN + "draw 2 3 1 1; ".repeat(6) + "nextDay; " + "draw 3 2 1 1; ".repeat(5));
        e.answers("draw 2 0 1 1", 11);
        e.then("draw 2 0 1 1", Given.UNSUPPORTED);
        e.then("holderOf 11", 2);
        e.then("holderOf 12", Given.INDEX);
        e.given(Given.BROKEN);
        e.answers("draw 2 0 1 1", 0);

        e.says("A bill is drawn by a house on another one, for an amount and a day ahead; its holder is the drawer at "
                + "first.");
        e.given(Given.BROKEN);
        e.answers("draw 3 2 77 2", 0);
        e.then("holderOf 0", 3);
        e.then("nextDay", 0);
        e.then("holderOf 0", 3);
        e.then("nextDay", 1);
        e.then("claim 3 2", 77);
        e.refuses("draw 3 3 77 2", Given.ARGUMENT);

        e.says("A holder that hands it on endorses it.");
        // The banks 1 and 4 fail, and the trader 2 answers for the bill that it handed on.
        e.given(Given.HARBOUR + "addHouse b; draw 1 4 8 1; endorse 0 2; endorse 0 3; lend 1 0 1; lend 4 0 1; "
                + "withdraw 0 1 s 1; withdraw 0 4 s 1");
        e.answers("nextDay", 1);
        e.then("claim 3 2", 8);
    }

    private void billsComeDue() {
        e.says("When its day comes, the holder gets a claim for its amount on the first one that is open, of the one on "
                + "whom it was drawn, the drawer, and then those who endorsed it, the latest first; if this is the "
                + "holder, or there is none, nothing is claimed.");
        String fail1 = "lend 1 0 1; withdraw 0 1 s 1; ";
        String fail4 = "lend 4 0 1; withdraw 0 4 s 1; ";
        String fail5 = "lend 5 0 1; withdraw 0 5 s 1; ";
        String three = Given.HARBOUR + "addHouse b; addHouse b; ";
        // Drawn by the bank 4 on the bank 1, endorsed by 4, 2, 5 and 0, held by 3.
        String bill = three + "draw 4 1 8 1; endorse 0 2; endorse 0 5; endorse 0 0; endorse 0 3; ";
        comesDue(bill, 3, 1);
        comesDue(bill + fail1, 3, 4);
        comesDue(bill + fail4, 3, 1);
        comesDue(bill + fail1 + fail4, 3, 0);
        // Endorsed by 4, 0, 2 and 5, held by 3: 5 is the latest, then 2, though 0 is the lowest.
        bill = three + "draw 4 1 8 1; endorse 0 0; endorse 0 2; endorse 0 5; endorse 0 3; ";
        comesDue(bill + fail1 + fail4, 3, 5);
        comesDue(bill + fail1 + fail4 + fail5, 3, 2);
        comesDue(bill + fail1 + fail5, 3, 4);
        // All five that endorsed it but the earliest one after the drawer failed: 4, 0, 5, 1 and 5.
        bill = three + "draw 4 1 8 1; endorse 0 0; endorse 0 5; endorse 0 1; endorse 0 5; endorse 0 3; ";
        comesDue(bill + fail1 + fail4 + fail5, 3, 0);
        // The holder is the one on whom it was drawn, the drawer, or one who endorsed it.
        comesDue(three + "draw 2 3 8 1; endorse 0 3; ", 3, -1);
        comesDue(three + "draw 2 1 8 1; " + fail1, 2, -1);
        comesDue(three + "draw 2 1 8 1; endorse 0 3; endorse 0 2; " + fail1, 2, -1);
        comesDue(three + "draw 4 1 8 1; endorse 0 2; endorse 0 3; endorse 0 5; endorse 0 3; " + fail1 + fail4 + fail5,
                3, -1);
        eachBillHasItsOwnEndorsers(three, fail1 + fail4);
        // Nobody is open who answers for it.
        comesDue(three + "draw 4 1 8 1; endorse 0 3; " + fail1 + fail4, 3, -1);
        comesDue(three + "draw 4 1 8 1; endorse 0 5; endorse 0 3; " + fail1 + fail4 + fail5, 3, -1);

        e.says("If the holder failed, the bill is of no worth.");
        e.given(three + "draw 2 3 8 1; endorse 0 1; " + fail1);
        e.answers("nextDay", 0);
        e.then("claim 1 3", 0);
        e.then("claim 0 3", 0);
        e.then("claim 2 3", 0);
        e.then("wealth 3", 0);
        e.then("lost", 1);
        e.then("holderOf 0", -1);

        e.says("Bills of one day come due by rising numbers.");
        // The order itself can not be seen: no claim of a bill changes another bill's.
        e.given(Given.BROKEN + "draw 2 3 1 3; draw 2 3 2 1; draw 2 3 4 3; draw 2 3 8 2; draw 2 3 16 3; "
                + "draw 3 2 5 3; draw 3 2 6 1");
        e.answers("nextDay", 2);
        e.then("claim 2 3", 2);
        e.then("claim 3 2", 6);
        e.then("nextDay", 1);
        e.then("claim 2 3", 10);
        e.then("nextDay", 4);
        e.then("claim 2 3", 31);
        e.then("claim 3 2", 11);
    }

    /** Twelve bills of the bank 4 on the bank 1, which fail; 2 or 3 endorsed them, in turn, ahead of 0 and 5. */
    private void eachBillHasItsOwnEndorsers(String houses, String failing) {
        StringBuilder calls = new StringBuilder(houses);
        for (int bill = 0; bill < 12; bill++) {
            int endorser = 2 + bill % 2;
            calls.append("draw 4 1 ").append(1 << bill).append(" 1; endorse ").append(bill).append(" 0; endorse ");
            calls.append(bill).append(' ').append(endorser).append("; endorse ").append(bill).append(" 5; ");
        }
        e.given(calls + failing);
        e.answers("nextDay", 12);
        e.then("claim 5 2", 0x555);
        e.then("claim 5 3", 0xAAA);
        e.then("claim 5 0", 0);
    }

    /** On the next day the bill 0, of 8, gives the holder a claim on the debtor, or on nobody for -1. */
    private void comesDue(String state, int holder, int debtor) {
        e.given(state);
        e.answers("nextDay", debtor < 0 ? 0 : 1);
        e.then("holderOf 0", -1);
        for (int house = 0; house < 6; house++) {
            e.then("claim " + holder + " " + house, house == debtor ? 8 : 0);
        }
        e.then("nextDay", 0);
    }

    private void voyages() {
        e.says("There are the voyages 0 to 3.");
        e.given(Given.BROKEN);
        e.answers("addShare 0 2 1", 1);
        e.then("addShare 3 2 1", 1);
        e.then("throwOver 0 2 9", 9);
        e.then("throwOver 3 2 9", 9);
        e.refuses("addShare 4 2 1", Given.INDEX);
        e.refuses("addShare -1 2 1", Given.INDEX);
        e.refuses("throwOver 4 2 1", Given.INDEX);
        e.refuses("throwOver -1 2 1", Given.INDEX);

        e.says("Houses have shares in a voyage, by value.");
        e.given(Given.HARBOUR + "addHouse b; addHouse t");
        for (int voyage = 0; voyage < 4; voyage++) {
            for (int house = 0; house < 6; house++) {
                int value = 1 + 6 * voyage + house;
                e.given(Given.HARBOUR + "addHouse b; addHouse t; " + shares());
                e.answers("addShare " + voyage + " " + house + " 1", value + 1);
            }
        }
    }

    /** Each share of each house has a value of its own, from 1 to 24. */
    private String shares() {
        StringBuilder calls = new StringBuilder();
        for (int n = 0; n < 24; n++) {
            calls.append("addShare ").append(n / 6).append(' ').append(n % 6).append(' ').append(1 + n).append("; ");
        }
        return calls.toString();
    }

    private void voyagesPart() {
        e.says("When goods of a house that has a share are thrown over, all who have shares bear the loss by value: each "
                + "one the loss times its value divided by the sum of all, rounded down; of what is left, 1 each is "
                + "borne by those with the greatest remainders, of several the lowest house.");
        borne("2 3 4", 9, "2 3 4");
        // By 9: 2, 3 and 4 with remainders of 2, 3 and 4, and 1 is left.
        borne("2 3 4", 10, "2 3 5");
        // 1, 2 and 3 with remainders of 7, 6 and 5, and 2 are left.
        borne("2 3 4", 8, "2 3 3");
        // Equal remainders: the lowest houses.
        borne("1 1 1 1", 6, "2 2 1 1");
        borne("1 1 1 1", 1, "1 0 0 0");
        borne("1 1 1 1 1 1", 5, "1 1 1 1 1 0");
        borne("1 1 1 1 1 1", 99, "17 17 17 16 16 16");
        borne("0 0 5 0 0 5", 99, "0 0 50 0 0 49");
        borne("3 3 3 1", 10, "3 3 3 1");
        borne("99 1", 1, "1 0");
        borne("1 99", 50, "1 49");
        borne("1 99", 49, "0 49");
        borne("99", 99, "99");

        e.says("The house whose goods they were gets a claim on each other one for what this one bears.");
        e.given(Given.HARBOUR + "addShare 2 0 1; addShare 2 1 2; addShare 2 3 3; lend 1 3 9");
        e.answers("throwOver 2 3 12", 6);
        e.then("claim 3 0", 2);
        e.then("claim 3 1", 13);
        e.then("claim 3 2", 0);
        e.then("claim 3 3", 0);
        e.then("claim 0 3", 0);
        e.then("claim 1 3", 9);
        e.then("throwOver 2 0 12", 2);
        e.then("claim 0 1", 4);
        e.then("claim 0 3", 6);
        e.then("claim 3 0", 2);
        e.then("isSound", true);
    }

    /** What each house bears of a loss, by the values of the houses from 0 on, whosever the goods were. */
    private void borne(String values, int loss, String due) {
        String[] value = values.split(" ");
        String[] bears = due.split(" ");
        StringBuilder calls = new StringBuilder(Given.HARBOUR + "addHouse b; addHouse t; ");
        for (int house = 0; house < value.length; house++) {
            if (!value[house].equals("0")) {
                calls.append("addShare 3 ").append(house).append(' ').append(value[house]).append("; ");
            }
        }
        e.given(calls.toString());
        for (int house = 0; house < value.length; house++) {
            if (!value[house].equals("0")) {
                e.answers("throwOver 3 " + house + " " + loss, bears[house]);
                for (int other = 0; other < value.length; other++) {
                    e.then("claim " + house + " " + other, other == house ? "0" : bears[other]);
                }
            }
        }
    }

    private void exceptions() {
        e.says("A method that throws an exception changes nothing.");
        String bills = "draw 2 3 8 1; draw 2 3 5 9; endorse 1 0; addShare 1 2 4; addShare 1 3 2; nextDay; ";
        e.given(Given.DEPOSITED + bills);
        // Each of them stands at the last check that it can fail by, or at one that is made late.
        e.refuses("addHouse x", Given.ARGUMENT);
        e.refuses("dig 4 g 99", Given.STATE);
        e.refuses("decree g 99 10", Given.ARGUMENT);
        e.refuses("decree g 100 9", Given.ARGUMENT);
        e.refuses("mint 2 g 3", Given.UNSUPPORTED);
        e.refuses("mint 2 g 86", Given.UNSUPPORTED);
        e.refuses("clip 0 5", Given.UNSUPPORTED);
        e.refuses("hoard 6 true", Given.INDEX);
        e.refuses("recoin 4 g", Given.STATE);
        e.refuses("pay 2 3 g 2", Given.UNSUPPORTED);
        e.refuses("deposit 2 1 g 2", Given.UNSUPPORTED);
        e.refuses("withdraw 2 1 g 4", Given.UNSUPPORTED);
        e.refuses("lend 1 4 5", Given.STATE);
        e.refuses("hand 2 3 1 32", Given.UNSUPPORTED);
        e.refuses("forgive 2 1 32", Given.UNSUPPORTED);
        e.refuses("draw 2 4 5 5", Given.STATE);
        e.refuses("endorse 0 0", Given.STATE);
        e.refuses("endorse 1 0", Given.ARGUMENT);
        e.refuses("endorse 1 4", Given.STATE);
        e.refuses("addShare 1 4 9", Given.STATE);
        e.refuses("throwOver 1 0 9", Given.UNSUPPORTED);
        e.given(Given.COINS + "addHouse t");
        e.refuses("addHouse t", Given.STATE);
    }

    private void clarifications() {
        e.says("A coin that goes to another house by a failing counts an owner more, and is not hoarded there.");
        e.given(Given.DEPOSITED + "hoard 0 true; hoard 2 true; lend 1 3 30; decree g 31 5");
        e.answers("withdraw 2 1 s 2", "x");
        // The coin 0 meets the claim of 31, the coin 1 that of 30, and the others are the crown's.
        e.then("ownerOf 0", 2);
        e.then("owners 0", 3);
        e.then("hoard 0 false", false);
        e.then("ownerOf 1", 3);
        e.then("owners 1", 3);
        e.then("ownerOf 2", 0);
        e.then("owners 2", 3);
        e.then("hoard 2 false", false);
        e.then("ownerOf 4", 0);
        e.then("owners 4", 3);
        e.then("owners 3", 1);
    }
}
