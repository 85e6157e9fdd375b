/** The states, exceptions and wrong values that the tests of Edges share. */
final class Given {
    static final String INDEX = "IndexOutOfBoundsException";
    static final String ARGUMENT = "IllegalArgumentException";
    static final String STATE = "IllegalStateException";
    static final String UNSUPPORTED = "UnsupportedOperationException";
    static final String ARITHMETIC = "ArithmeticException";

    /** The crown 0, the bank 1, the traders 2 and 3. */
    static final String HARBOUR = "addHouse b; addHouse t; addHouse t; ";
    /** The bank 4 beside them failed over a claim of 1; no claim is left, and house 5 is not there. */
    static final String BROKEN = HARBOUR + "addHouse b; lend 4 3 1; withdraw 3 4 s 1; forgive 0 3 1; ";
    /** The trader 2 has the coins 0 to 3 of gold and 4 and 5 of silver, and ore of 10 and 2. */
    static final String COINS = BROKEN + "dig 2 g 30; mint 2 g 4; dig 2 s 12; mint 2 s 2; ";
    /** Its coins 0 to 2 and 4 are the bank's, on which it has a claim of 31. */
    static final String DEPOSITED = COINS + "deposit 2 1 g 3; deposit 2 1 s 1; ";
    /** Gold ore of 460 is the trader's 2, enough for more coins than there can be. */
    static final String ORE = BROKEN + "dig 2 g 99; dig 2 g 99; dig 2 g 99; dig 2 g 99; dig 2 g 64; ";
    /** All coins that there can be are the trader's 2. */
    static final String FULL = ORE + "mint 2 g 90; ";
    /** The only coin, 0 of gold, was melted, and its ore is the trader's 3. */
    static final String MELTED = BROKEN + "dig 2 g 5; mint 2 g 1; pay 2 3 g 1; decree g 10 9; recoin 3 g; "
            + "decree g 10 5; ";

    static final String[] NO_METALS = {"x", "G", "S", "f", "h", "r", "t", "b", "c", "#0", "#359", "#371", "#65535"};
    static final String[] NO_HOUSES = {"-1", "5", "6", "7", "min", "max"};

    private Given() {
    }

    /** What stands just outside of the range from 1, and far from it. */
    static String[] outside(int most) {
        return new String[] {"0", "-1", "min", String.valueOf(most + 1), "max"};
    }
}
