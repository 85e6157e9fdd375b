/** Promises 10 to 12: pay, deposit, withdraw. */
final class PayEdges {
    private final Edges e;

    PayEdges(Edges edges) {
        e = edges;
    }

    void tell() {
        pay();
        payRefused();
        deposit();
        depositRefused();
        withdraw();
        withdrawRefused();
        withdrawUnsupported();
    }

    private void pay() {
        e.section("Promise 10: pay");
        e.says("Pays coins.");
        e.given(Given.COINS);
        e.answers("pay 2 3 g 2", 10);
        e.then("coins 2 g", 2);
        e.then("coins 3 g", 2);
        e.then("ownerOf 0", 3);
        e.then("ownerOf 1", 3);
        e.then("ownerOf 2", 2);
        e.then("owners 0", 2);
        e.then("owners 2", 1);
        e.then("wealth 3", 20);
        e.then("claim 2 3", 0);
        e.then("claim 3 2", 0);
        e.then("isSound", true);

        e.says("- `metal`: 'g' or 's'");
        e.given(Given.COINS);
        e.answers("pay 2 3 s 2", 10);
        e.then("coins 3 s", 2);
        e.then("coins 3 g", 0);
        e.answers("pay 2 3 g 2", 10);
        e.then("coins 3 s", 0);
        e.then("coins 3 g", 2);

        e.says("- `many`: how many coins, 1 to 90");
        e.given(Given.FULL);
        e.answers("pay 2 3 g 1", 5);
        e.then("coins 3 g", 1);
        e.answers("pay 2 3 g 90", 450);
        e.then("coins 3 g", 90);
        e.then("coins 2 g", 0);
        e.refusesEach("pay 2 3 g ?", Given.ARGUMENT, Given.outside(90));

        e.says("Returns the weight of what is paid.");
        e.given(Given.COINS + "clip 1 4; clip 2 2");
        e.answers("pay 2 3 g 1", 1);
        e.answers("pay 2 3 g 2", 4);
        e.answers("pay 2 3 g 3", 9);
        e.answers("pay 2 3 g 4", 14);
        e.answers("pay 2 0 s 1", 5);
    }

    private void payRefused() {
        e.says("Throws `IndexOutOfBoundsException` if there is no such house, for either");
        e.given(Given.COINS);
        e.answers("pay 2 3 g 1", 5);
        e.then("pay 3 0 g 1", 5);
        for (String call : new String[] {"g 1", "x 1", "g 0", "g 91", "g 90"}) {
            e.refusesEach("pay ? 3 " + call, Given.INDEX, Given.NO_HOUSES);
            e.refusesEach("pay 2 ? " + call, Given.INDEX, Given.NO_HOUSES);
            e.refusesEach("pay ? ? " + call, Given.INDEX, Given.NO_HOUSES);
            e.refusesEach("pay 4 ? " + call, Given.INDEX, Given.NO_HOUSES);
            e.refusesEach("pay ? 4 " + call, Given.INDEX, Given.NO_HOUSES);
        }

        e.says("Throws `IllegalArgumentException` if there is no such metal, a number is out of range, "
                + "or both houses are the same");
        e.given(Given.COINS);
        for (String houses : new String[] {"2 3", "3 2", "4 2", "2 4", "2 2", "4 4"}) {
            e.refusesEach("pay " + houses + " ? 1", Given.ARGUMENT, Given.NO_METALS);
            e.refusesEach("pay " + houses + " g ?", Given.ARGUMENT, Given.outside(90));
        }
        e.refusesEach("pay ? g 1", Given.ARGUMENT, "0 0", "1 1", "2 2", "3 3", "4 4");
        e.refuses("pay 2 2 g 5", Given.ARGUMENT);

        e.says("Throws `IllegalStateException` if either failed");
        e.given(Given.COINS);
        e.refuses("pay 4 2 g 1", Given.STATE);
        e.refuses("pay 2 4 g 1", Given.STATE);
        e.refuses("pay 2 4 g 5", Given.STATE);
        e.refuses("pay 3 4 g 1", Given.STATE);
        e.refuses("pay 4 0 s 90", Given.STATE);
        e.answers("pay 2 1 g 1", 5);
        e.then("pay 1 2 g 1", 5);

        e.says("Throws `UnsupportedOperationException` if it has not so many that are not hoarded");
        e.given(Given.COINS);
        e.answers("pay 2 3 g 4", 20);
        e.refuses("pay 2 3 g 5", Given.UNSUPPORTED);
        e.refuses("pay 2 3 g 90", Given.UNSUPPORTED);
        e.answers("pay 2 3 s 2", 10);
        e.refuses("pay 2 3 s 3", Given.UNSUPPORTED);
        e.refuses("pay 3 2 g 1", Given.UNSUPPORTED);
        e.given(Given.COINS + "hoard 3 true");
        e.answers("pay 2 3 g 3", 15);
        e.refuses("pay 2 3 g 4", Given.UNSUPPORTED);
        e.given(Given.COINS + "hoard 4 true; hoard 5 true");
        e.refuses("pay 2 3 s 1", Given.UNSUPPORTED);
        e.answers("pay 2 3 g 4", 20);
        e.given(Given.FULL + "hoard 0 true");
        e.answers("pay 2 3 g 89", 445);
        e.refuses("pay 2 3 g 90", Given.UNSUPPORTED);
    }

    private void deposit() {
        e.section("Promise 11: deposit");
        e.says("Brings coins to a bank.");
        e.given(Given.COINS + "clip 2 1");
        e.answers("deposit 2 1 g 2", 20);
        e.then("ownerOf 2", 1);
        e.then("ownerOf 0", 1);
        e.then("ownerOf 1", 2);
        e.then("owners 2", 2);
        e.then("coins 1 g", 2);
        e.then("coins 2 g", 2);
        e.then("claim 2 1", 20);
        e.then("claim 1 2", 0);
        e.then("wealth 1", 0);
        e.then("wealth 2", 42);
        e.then("isSound", true);

        e.says("- `metal`: 'g' or 's'");
        e.given(Given.COINS);
        e.answers("deposit 2 1 s 2", 2);
        e.then("coins 1 s", 2);
        e.then("coins 1 g", 0);
        e.answers("deposit 2 1 g 2", 20);
        e.then("coins 1 g", 2);

        e.says("- `many`: how many coins, 1 to 90");
        e.given(Given.FULL);
        e.answers("deposit 2 1 g 1", 10);
        e.then("coins 1 g", 1);
        e.answers("deposit 2 1 g 90", 900);
        e.then("coins 1 g", 90);
        e.refusesEach("deposit 2 1 g ?", Given.ARGUMENT, Given.outside(90));
        e.given(Given.FULL + "decree g 99 9");
        e.answers("deposit 2 1 g 90", 8910);

        e.says("Returns its claim on the bank then.");
        e.given(Given.COINS + "lend 1 2 7; lend 1 3 8");
        e.answers("deposit 2 1 g 1", 17);
        e.then("deposit 2 1 s 1", 18);
        e.then("decree g 12 5", 1005);
        e.then("deposit 2 1 g 2", 42);
        e.then("claim 2 1", 42);
        e.then("claim 3 1", 8);
        e.then("claim 1 2", 7);
    }

    private void depositRefused() {
        e.says("Throws `IndexOutOfBoundsException` if there is no such house, for either");
        e.given(Given.COINS);
        for (String call : new String[] {"g 1", "x 1", "g 0", "g 91", "g 90"}) {
            e.refusesEach("deposit ? 1 " + call, Given.INDEX, Given.NO_HOUSES);
            e.refusesEach("deposit 2 ? " + call, Given.INDEX, Given.NO_HOUSES);
            e.refusesEach("deposit ? ? " + call, Given.INDEX, Given.NO_HOUSES);
            e.refusesEach("deposit ? 0 " + call, Given.INDEX, Given.NO_HOUSES);
            e.refusesEach("deposit 4 ? " + call, Given.INDEX, Given.NO_HOUSES);
        }

        e.says("Throws `IllegalArgumentException` if there is no such metal, a number is out of range, "
                + "both are the same, or it is no bank");
        e.given(Given.COINS);
        for (String houses : new String[] {"2 1", "3 1", "4 1", "2 4", "2 0", "1 1"}) {
            e.refusesEach("deposit " + houses + " ? 1", Given.ARGUMENT, Given.NO_METALS);
            e.refusesEach("deposit " + houses + " g ?", Given.ARGUMENT, Given.outside(90));
        }
        e.refusesEach("deposit ? g 1", Given.ARGUMENT, "0 0", "1 1", "2 2", "4 4");
        e.refusesEach("deposit ? g 1", Given.ARGUMENT, "2 0", "2 3", "1 0", "0 2", "3 2", "4 0", "4 2");
        e.refuses("deposit 2 0 g 5", Given.ARGUMENT);

        e.says("Throws `IllegalStateException` if either failed");
        e.given(Given.COINS);
        e.refuses("deposit 2 4 g 1", Given.STATE);
        e.refuses("deposit 4 1 g 1", Given.STATE);
        e.refuses("deposit 2 4 g 5", Given.STATE);
        e.refuses("deposit 3 4 g 1", Given.STATE);
        e.answers("deposit 2 1 g 1", 10);

        e.says("Throws `UnsupportedOperationException` if it has not so many that are not hoarded");
        e.given(Given.COINS);
        e.answers("deposit 2 1 g 4", 40);
        e.refuses("deposit 2 1 g 5", Given.UNSUPPORTED);
        e.refuses("deposit 2 1 g 90", Given.UNSUPPORTED);
        e.refuses("deposit 2 1 s 3", Given.UNSUPPORTED);
        e.refuses("deposit 0 1 g 1", Given.UNSUPPORTED);
        e.given(Given.COINS + "hoard 0 true");
        e.answers("deposit 2 1 g 3", 30);
        e.refuses("deposit 2 1 g 4", Given.UNSUPPORTED);
        e.given(Given.COINS + "hoard 4 true; hoard 5 true");
        e.refuses("deposit 2 1 s 1", Given.UNSUPPORTED);
    }

    private void withdraw() {
        e.section("Promise 12: withdraw");
        e.says("Takes coins out of a bank.");
        e.given(Given.DEPOSITED + "clip 1 1");
        e.answers("withdraw 2 1 g 2", "p");
        e.then("ownerOf 1", 2);
        e.then("ownerOf 0", 2);
        e.then("ownerOf 2", 1);
        e.then("owners 1", 3);
        e.then("coins 1 g", 1);
        e.then("coins 2 g", 3);
        e.then("claim 2 1", 11);
        e.then("claim 1 2", 0);
        e.then("lost", 1);
        e.then("kindOf 1", "b");
        e.then("isSound", true);

        e.says("- `metal`: 'g' or 's'");
        e.given(Given.DEPOSITED);
        e.answers("withdraw 2 1 s 1", "p");
        e.then("claim 2 1", 30);
        e.then("ownerOf 4", 2);
        e.then("coins 1 g", 3);
        e.answers("withdraw 2 1 g 1", "p");
        e.then("claim 2 1", 21);
        e.then("coins 1 s", 1);

        e.says("- `many`: how many coins, 1 to 90");
        e.given(Given.FULL + "deposit 2 1 g 90");
        e.answers("withdraw 2 1 g 1", "p");
        e.then("coins 2 g", 1);
        e.answers("withdraw 2 1 g 90", "p");
        e.then("coins 2 g", 90);
        e.then("claim 2 1", 0);
        e.refusesEach("withdraw 2 1 g ?", Given.ARGUMENT, Given.outside(90));

        e.says("Returns 'p' they are paid, 'x' the bank fails.");
        e.given(Given.DEPOSITED + "lend 1 2 9");
        e.answers("withdraw 2 1 g 3", "p");
        e.then("kindOf 1", "b");
        e.answers("withdraw 2 1 g 4", "x");
        e.then("kindOf 1", "x");
        e.answers("withdraw 2 1 s 1", "p");
        e.answers("withdraw 2 1 s 2", "x");
        e.given(Given.DEPOSITED + "hoard 0 true");
        e.answers("withdraw 2 1 g 2", "p");
        e.answers("withdraw 2 1 g 3", "x");
        e.given(Given.BROKEN + "lend 1 2 9999");
        e.answers("withdraw 2 1 g 90", "x");
        e.answers("withdraw 2 1 s 1", "x");
    }

    private void withdrawRefused() {
        e.says("Throws `IndexOutOfBoundsException` if there is no such house, for either");
        e.given(Given.DEPOSITED);
        for (String call : new String[] {"g 1", "x 1", "g 0", "g 91", "g 90"}) {
            e.refusesEach("withdraw ? 1 " + call, Given.INDEX, Given.NO_HOUSES);
            e.refusesEach("withdraw 2 ? " + call, Given.INDEX, Given.NO_HOUSES);
            e.refusesEach("withdraw ? ? " + call, Given.INDEX, Given.NO_HOUSES);
            e.refusesEach("withdraw ? 0 " + call, Given.INDEX, Given.NO_HOUSES);
            e.refusesEach("withdraw 4 ? " + call, Given.INDEX, Given.NO_HOUSES);
        }

        e.says("Throws `IllegalArgumentException` if there is no such metal, a number is out of range, "
                + "both are the same, or it is no bank");
        e.given(Given.DEPOSITED);
        for (String houses : new String[] {"2 1", "3 1", "4 1", "2 4", "2 0", "1 1"}) {
            e.refusesEach("withdraw " + houses + " ? 1", Given.ARGUMENT, Given.NO_METALS);
            e.refusesEach("withdraw " + houses + " g ?", Given.ARGUMENT, Given.outside(90));
        }
        e.refusesEach("withdraw ? g 1", Given.ARGUMENT, "0 0", "1 1", "2 2", "4 4");
        e.refusesEach("withdraw ? g 1", Given.ARGUMENT, "2 0", "2 3", "1 0", "0 2", "3 2", "4 0", "4 2");
        // A claim on a house that is no bank is not one that coins can be taken out for.
        e.given(Given.DEPOSITED + "draw 3 2 50 1; draw 3 0 50 1; nextDay");
        e.refuses("withdraw 3 2 g 1", Given.ARGUMENT);
        e.refuses("withdraw 3 0 s 1", Given.ARGUMENT);

        e.says("Throws `IllegalStateException` if either failed");
        e.given(Given.DEPOSITED);
        e.refuses("withdraw 2 4 g 1", Given.STATE);
        e.refuses("withdraw 4 1 g 1", Given.STATE);
        e.refuses("withdraw 3 4 s 90", Given.STATE);
        e.answers("withdraw 2 1 g 1", "p");
    }

    private void withdrawUnsupported() {
        e.says("Throws `UnsupportedOperationException` if its claim is less than their faces");
        e.given(Given.DEPOSITED + "forgive 2 1 1");
        e.answers("withdraw 2 1 g 3", "p");
        e.then("claim 2 1", 0);
        e.then("withdraw 2 1 s 1", Given.UNSUPPORTED);
        // A bank that has too few coins as well does not fail over a claim that is too small.
        e.refuses("withdraw 2 1 g 4", Given.UNSUPPORTED);
        e.refuses("withdraw 2 1 g 90", Given.UNSUPPORTED);
        e.refuses("withdraw 3 1 g 1", Given.UNSUPPORTED);
        e.refuses("withdraw 0 1 s 2", Given.UNSUPPORTED);
        e.given(Given.DEPOSITED + "forgive 2 1 2");
        e.refuses("withdraw 2 1 g 3", Given.UNSUPPORTED);
        e.answers("withdraw 2 1 g 2", "p");
        e.given(Given.DEPOSITED + "decree g 11 5");
        e.refuses("withdraw 2 1 g 3", Given.UNSUPPORTED);
        e.answers("withdraw 2 1 g 2", "p");
        e.then("claim 2 1", 9);
        e.given(Given.BROKEN + "decree g 99 5; lend 1 2 8910");
        e.answers("withdraw 2 1 g 90", "x");
        e.given(Given.BROKEN + "decree g 99 5; lend 1 2 8909");
        e.refuses("withdraw 2 1 g 90", Given.UNSUPPORTED);
        e.answers("withdraw 2 1 g 89", "x");
        // What the bank claims of the house does not count.
        e.given(Given.BROKEN + "lend 1 2 9; forgive 2 1 9");
        e.refuses("withdraw 2 1 s 1", Given.UNSUPPORTED);
    }
}
