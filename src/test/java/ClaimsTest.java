/** Promises 11 to 16: deposit, withdraw, lend, hand, forgive, claim; and the failing of a bank. */
public final class ClaimsTest {
    private static final Due due = new Due();

    public static void main(String[] args) {
        deposit();
        depositWrong();
        withdraw();
        withdrawWrong();
        lend();
        lendWrong();
        hand();
        handWrong();
        forgive();
        claim();
        failPartsTheHeaviestFirst();
        failPartsByTheGreatestClaim();
        failLosesWhatIsLeft();
        failLeavesTheRestToTheCrown();
        failLeavesALightFirstCoinToTheCrown();
        failPartsAsManyCoinsAsThereCanBe();
        failOfABankThatHasClaims();
        due.end();
    }

    private static void deposit() {
        Harbourmint x = States.minted(2, 'g', 4);
        x.clip(3, 2);
        due.is("deposit 1", x.deposit(2, 1, 'g', 1), 10);
        due.is("the lightest one", x.ownerOf(3), 1);
        due.is("its owners", x.owners(3), 2);
        x.decree('g', 12, 5);
        due.is("deposit 2 by the face as it is now", x.deposit(2, 1, 'g', 2), 34);
        due.is("claim(2, 1)", x.claim(2, 1), 34);
        due.is("claim(1, 2)", x.claim(1, 2), 0);
        due.is("coins of the bank", x.coins(1, 'g'), 3);
        x.addHouse('b');
        due.is("a bank brings to a bank", x.deposit(1, 4, 'g', 3), 36);
        x.dig(0, 's', 5);
        x.mint(0, 's', 1);
        due.is("the crown brings silver", x.deposit(0, 1, 's', 1), 1);
    }

    private static void depositWrong() {
        Harbourmint x = States.minted(2, 'g', 2);
        x.addHouse('b');
        States.breakBank(x, 4, 3);
        due.isThrown(Wrong.INDEX, "deposit at 5", () -> x.deposit(2, 5, 'x', 0));
        due.isThrown(Wrong.INDEX, "deposit of -1", () -> x.deposit(-1, 1, 'g', 1));
        due.isThrown(Wrong.ARGUMENT, "deposit 'x'", () -> x.deposit(2, 1, 'x', 1));
        due.isThrown(Wrong.ARGUMENT, "deposit 0", () -> x.deposit(2, 1, 'g', 0));
        due.isThrown(Wrong.ARGUMENT, "deposit 91", () -> x.deposit(2, 1, 'g', 91));
        due.isThrown(Wrong.ARGUMENT, "deposit at oneself", () -> x.deposit(1, 1, 'g', 1));
        due.isThrown(Wrong.ARGUMENT, "deposit at the crown", () -> x.deposit(2, 0, 'g', 1));
        due.isThrown(Wrong.ARGUMENT, "deposit at a trader", () -> x.deposit(2, 3, 'g', 1));
        due.isThrown(Wrong.ARGUMENT, "deposit of one that failed at a trader", () -> x.deposit(4, 3, 'g', 1));
        due.isThrown(Wrong.ARGUMENT, "a bank that failed, at itself", () -> x.deposit(4, 4, 'g', 1));
        due.isThrown(Wrong.STATE, "deposit at one that failed", () -> x.deposit(2, 4, 'g', 1));
        due.isThrown(Wrong.STATE, "deposit of one that failed", () -> x.deposit(4, 1, 'g', 1));
        x.hoard(0, true);
        due.isThrown(Wrong.UNSUPPORTED, "deposit 2, one hoarded", () -> x.deposit(2, 1, 'g', 2));
        due.is("deposit 1", x.deposit(2, 1, 'g', 1), 10);
    }

    private static void withdraw() {
        Harbourmint x = States.minted(2, 'g', 4);
        x.deposit(2, 1, 'g', 4);
        x.clip(2, 2);
        due.is("withdraw 1", x.withdraw(2, 1, 'g', 1), 'p');
        due.is("the lightest one", x.ownerOf(2), 2);
        due.is("its owners", x.owners(2), 3);
        due.is("what is left of the claim", x.claim(2, 1), 30);
        x.decree('g', 15, 5);
        due.is("withdraw 2 by the face as it is now", x.withdraw(2, 1, 'g', 2), 'p');
        due.is("the whole claim is gone", x.claim(2, 1), 0);
        due.is("a coin is left", x.coins(1, 'g'), 1);
        x.lend(1, 3, 15);
        x.hoard(3, true);
        due.is("withdraw of what is hoarded", x.withdraw(3, 1, 'g', 1), 'x');
        due.is("kindOf(1)", x.kindOf(1), 'x');
        due.is("the hoarded one goes by the failing", x.ownerOf(3), 3);
        due.is("and is not hoarded there", x.hoard(3, false), false);
        due.is("an owner more", x.owners(3), 3);
        due.is("nothing is lost", x.lost(), 0);
    }

    private static void withdrawWrong() {
        Harbourmint x = States.minted(2, 'g', 2);
        x.addHouse('b');
        States.breakBank(x, 4, 3);
        x.deposit(2, 1, 'g', 1);
        due.isThrown(Wrong.INDEX, "withdraw at 5", () -> x.withdraw(2, 5, 'x', 0));
        due.isThrown(Wrong.INDEX, "withdraw of -1", () -> x.withdraw(-1, 1, 'g', 1));
        due.isThrown(Wrong.ARGUMENT, "withdraw 'x'", () -> x.withdraw(2, 1, 'x', 1));
        due.isThrown(Wrong.ARGUMENT, "withdraw 0", () -> x.withdraw(2, 1, 'g', 0));
        due.isThrown(Wrong.ARGUMENT, "withdraw 91", () -> x.withdraw(2, 1, 'g', 91));
        due.isThrown(Wrong.ARGUMENT, "withdraw at oneself", () -> x.withdraw(1, 1, 'g', 1));
        due.isThrown(Wrong.ARGUMENT, "withdraw at the crown", () -> x.withdraw(2, 0, 'g', 1));
        due.isThrown(Wrong.ARGUMENT, "withdraw of one that failed at a trader", () -> x.withdraw(4, 3, 'g', 1));
        due.isThrown(Wrong.STATE, "withdraw at one that failed", () -> x.withdraw(2, 4, 'g', 1));
        due.isThrown(Wrong.STATE, "withdraw of one that failed", () -> x.withdraw(4, 1, 'g', 1));
        due.isThrown(Wrong.UNSUPPORTED, "withdraw more than the claim", () -> x.withdraw(2, 1, 'g', 2));
        due.isThrown(Wrong.UNSUPPORTED, "withdraw without a claim", () -> x.withdraw(3, 1, 's', 1));
        due.is("the bank stands", x.kindOf(1), 'b');
        due.is("withdraw the whole claim", x.withdraw(2, 1, 'g', 1), 'p');
    }

    private static void lend() {
        Harbourmint x = States.harbour();
        due.is("lend", x.lend(1, 2, 9999), 9999);
        due.is("lend again", x.lend(1, 2, 1), 10000);
        due.is("the claim of the bank", x.claim(1, 2), 10000);
        due.is("lend to the crown", x.lend(1, 0, 5), 5);
        x.addHouse('b');
        due.is("lend to a bank", x.lend(1, 4, 6), 6);
        due.is("the bank lends back", x.lend(4, 1, 3), 9);
        due.is("and is not set off", x.claim(4, 1), 9);
    }

    private static void lendWrong() {
        Harbourmint x = States.harbour();
        x.addHouse('b');
        States.breakBank(x, 4, 3);
        due.isThrown(Wrong.INDEX, "lend to 5", () -> x.lend(1, 5, 0));
        due.isThrown(Wrong.INDEX, "lend of -1", () -> x.lend(-1, 2, 1));
        due.isThrown(Wrong.ARGUMENT, "lend 0", () -> x.lend(1, 2, 0));
        due.isThrown(Wrong.ARGUMENT, "lend 10000", () -> x.lend(1, 2, 10000));
        due.isThrown(Wrong.ARGUMENT, "lend oneself", () -> x.lend(1, 1, 1));
        due.isThrown(Wrong.ARGUMENT, "lend of a trader", () -> x.lend(2, 3, 1));
        due.isThrown(Wrong.ARGUMENT, "lend of the crown", () -> x.lend(0, 3, 1));
        due.isThrown(Wrong.ARGUMENT, "lend of a trader to one that failed", () -> x.lend(2, 4, 1));
        due.isThrown(Wrong.STATE, "lend to one that failed", () -> x.lend(1, 4, 1));
        due.isThrown(Wrong.STATE, "lend of one that failed", () -> x.lend(4, 2, 1));
    }

    private static void hand() {
        Harbourmint x = States.harbour();
        x.lend(1, 2, 20);
        due.is("hand 5", x.hand(2, 3, 1, 5), 15);
        due.is("claim(3, 1)", x.claim(3, 1), 5);
        due.is("claim(2, 1)", x.claim(2, 1), 15);
        due.is("the claim of the bank stays", x.claim(1, 2), 20);
        due.is("hand all to the crown", x.hand(2, 0, 1, 15), 0);
        due.is("claim(0, 1)", x.claim(0, 1), 15);
        due.is("hand on", x.hand(0, 3, 1, 1), 14);
        due.is("claim(3, 1)", x.claim(3, 1), 6);
    }

    private static void handWrong() {
        Harbourmint x = States.harbour();
        x.addHouse('b');
        x.lend(1, 2, 5);
        States.breakBank(x, 4, 3);
        due.isThrown(Wrong.INDEX, "hand of 5", () -> x.hand(5, 3, 1, 0));
        due.isThrown(Wrong.INDEX, "hand to 5", () -> x.hand(2, 5, 1, 0));
        due.isThrown(Wrong.INDEX, "hand at -1", () -> x.hand(2, 3, -1, 1));
        due.isThrown(Wrong.ARGUMENT, "hand 0", () -> x.hand(2, 3, 1, 0));
        due.isThrown(Wrong.ARGUMENT, "hand 10000", () -> x.hand(2, 3, 1, 10000));
        due.isThrown(Wrong.ARGUMENT, "hand to oneself", () -> x.hand(2, 2, 1, 1));
        due.isThrown(Wrong.ARGUMENT, "hand to the bank", () -> x.hand(2, 1, 1, 1));
        due.isThrown(Wrong.ARGUMENT, "hand of the bank", () -> x.hand(1, 2, 1, 1));
        due.isThrown(Wrong.ARGUMENT, "hand on a trader", () -> x.hand(2, 0, 3, 1));
        due.isThrown(Wrong.ARGUMENT, "hand on a trader to one that failed", () -> x.hand(2, 4, 3, 1));
        due.isThrown(Wrong.STATE, "hand to one that failed", () -> x.hand(2, 4, 1, 1));
        due.isThrown(Wrong.STATE, "hand of one that failed", () -> x.hand(4, 2, 1, 1));
        due.isThrown(Wrong.STATE, "hand at one that failed", () -> x.hand(2, 3, 4, 1));
        due.isThrown(Wrong.UNSUPPORTED, "hand 6 of 5", () -> x.hand(2, 3, 1, 6));
        due.is("hand 5 of 5", x.hand(2, 3, 1, 5), 0);
    }

    private static void forgive() {
        Harbourmint x = States.harbour();
        x.lend(1, 2, 20);
        due.is("forgive a part", x.forgive(1, 2, 5), 15);
        due.is("the claim back stays", x.claim(2, 1), 20);
        due.is("forgive all", x.forgive(2, 1, 20), 0);
        due.is("nothing is lost by it", x.lost(), 0);
        due.isThrown(Wrong.INDEX, "forgive of 4", () -> x.forgive(4, 1, 0));
        due.isThrown(Wrong.INDEX, "forgive on -1", () -> x.forgive(1, -1, 1));
        due.isThrown(Wrong.ARGUMENT, "forgive 0", () -> x.forgive(1, 2, 0));
        due.isThrown(Wrong.ARGUMENT, "forgive 10000", () -> x.forgive(1, 2, 10000));
        due.isThrown(Wrong.UNSUPPORTED, "forgive 16 of 15", () -> x.forgive(1, 2, 16));
        due.isThrown(Wrong.UNSUPPORTED, "forgive oneself", () -> x.forgive(2, 2, 1));
        States.breakBank(x, 1, 3);
        due.isThrown(Wrong.UNSUPPORTED, "forgive of one that failed", () -> x.forgive(1, 2, 1));
        due.is("the crown has it now", x.forgive(0, 2, 15), 0);
    }

    private static void claim() {
        Harbourmint x = States.harbour();
        x.lend(1, 3, 7);
        due.is("claim(3, 1)", x.claim(3, 1), 7);
        due.is("claim(1, 3)", x.claim(1, 3), 7);
        due.is("claim(2, 1)", x.claim(2, 1), 0);
        due.is("claim(1, 1)", x.claim(1, 1), 0);
        due.isThrown(Wrong.INDEX, "claim(4, 0)", () -> x.claim(4, 0));
        due.isThrown(Wrong.INDEX, "claim(0, 4)", () -> x.claim(0, 4));
        due.isThrown(Wrong.INDEX, "claim(-1, 0)", () -> x.claim(-1, 0));
    }

    /** Coins 0 and 1 of silver, 2 and 3 of gold go by weight, gold first of equals, then the number. */
    private static void failPartsTheHeaviestFirst() {
        Harbourmint x = States.minted(1, 's', 2);
        x.dig(1, 'g', 10);
        x.mint(1, 'g', 2);
        x.clip(3, 1);
        x.hoard(2, true);
        // Claims of 12, 11 and 3: gold 2 to the trader 2 (2 left), silver 0 and 1 to 3 (9 left), gold 3 to 3.
        x.lend(1, 2, 12);
        x.lend(1, 3, 11);
        x.lend(1, 0, 3);
        due.is("withdraw", x.withdraw(2, 1, 's', 3), 'x');
        due.is("the gold one of weight 5", x.ownerOf(2), 2);
        due.is("is not hoarded", x.hoard(2, false), false);
        due.is("the first silver one", x.ownerOf(0), 3);
        due.is("the second silver one", x.ownerOf(1), 3);
        due.is("the gold one of weight 4", x.ownerOf(3), 3);
        due.is("lost()", x.lost(), 2 + 0 + 3);
        due.is("owners", x.owners(3), 2);
        due.is("isSound()", x.isSound(), true);
    }

    /** Of equal claims the crown is first, then the lowest number; each claim sinks by the face. */
    private static void failPartsByTheGreatestClaim() {
        Harbourmint x = States.minted(1, 's', 7);
        for (int coin = 0; coin < 7; coin++) {
            x.hoard(coin, true);
        }
        x.lend(1, 3, 2);
        x.lend(1, 2, 3);
        x.lend(1, 0, 2);
        due.is("withdraw", x.withdraw(3, 1, 's', 1), 'x');
        int[] owners = {2, 0, 2, 3, 0, 2, 3};
        for (int coin = 0; coin < 7; coin++) {
            due.is("ownerOf(" + coin + ")", x.ownerOf(coin), owners[coin]);
        }
        due.is("lost()", x.lost(), 0);
        due.is("claims on it", x.claim(0, 1) + x.claim(2, 1) + x.claim(3, 1), 0);
    }

    private static void failLosesWhatIsLeft() {
        Harbourmint x = States.minted(1, 'g', 1);
        x.decree('g', 7, 5);
        x.lend(1, 2, 30);
        x.lend(1, 3, 5);
        due.is("withdraw", x.withdraw(2, 1, 'g', 2), 'x');
        due.is("the only coin", x.ownerOf(0), 2);
        due.is("lost()", x.lost(), 30 - 7 + 5);
        x.addHouse('b');
        States.breakBank(x, 4, 3);
        due.is("a second loss", x.lost(), 29);
    }

    private static void failLeavesTheRestToTheCrown() {
        Harbourmint x = States.minted(1, 'g', 3);
        x.dig(2, 'g', 11);
        x.dig(1, 'g', 4);
        x.dig(1, 's', 6);
        x.dig(0, 's', 1);
        x.hoard(2, true);
        x.lend(1, 2, 3);
        // A claim of 3 is met by a coin of face 10 and is not below 0 then.
        due.is("withdraw", x.withdraw(2, 1, 's', 3), 'x');
        due.is("the first coin", x.ownerOf(0), 2);
        due.is("claim(2, 1)", x.claim(2, 1), 0);
        due.is("the second coin", x.ownerOf(1), 0);
        due.is("the hoarded coin", x.ownerOf(2), 0);
        due.is("is not hoarded there", x.hoard(2, false), false);
        due.is("counts an owner more", x.owners(2), 2);
        due.is("gold ore", x.ore(0, 'g'), 4);
        due.is("silver ore", x.ore(0, 's'), 7);
        due.is("ore of the bank", x.ore(1, 'g') + x.ore(1, 's'), 0);
        due.is("ore of the next house", x.ore(2, 'g'), 11);
        due.is("coins of the bank", x.coins(1, 'g'), 0);
        due.is("wealth of the bank", x.wealth(1), 0);
        due.is("lost()", x.lost(), 0);
        due.is("isSound()", x.isSound(), true);
    }

    private static void failLeavesALightFirstCoinToTheCrown() {
        Harbourmint x = States.minted(1, 'g', 2);
        x.clip(0, 1);
        x.lend(1, 2, 1);
        due.is("withdraw", x.withdraw(2, 1, 's', 1), 'x');
        due.is("the heavy coin", x.ownerOf(1), 2);
        due.is("the light coin", x.ownerOf(0), 0);
        due.is("coins of the crown", x.coins(0, 'g'), 1);
        due.is("ore of the crown", x.ore(0, 'g'), 1);
    }

    private static void failPartsAsManyCoinsAsThereCanBe() {
        Harbourmint x = States.minted(1, 's', 90);
        x.lend(1, 3, 900);
        due.is("withdraw", x.withdraw(3, 1, 'g', 90), 'x');
        due.is("coins of the creditor", x.coins(3, 's'), 90);
        due.is("lost()", x.lost(), 810);
        due.is("pay 90", x.pay(3, 2, 's', 90), 450);
        due.is("owners(89)", x.owners(89), 3);
        due.is("lightShare()", x.lightShare(), 0.0f);
        due.is("meanWeight()", x.meanWeight(), 5.0);
        due.is("isSound()", x.isSound(), true);
        due.is("recoin", x.recoin(2, 's'), 0);
        due.is("isSound() without a coin", x.isSound(), true);
    }

    private static void failOfABankThatHasClaims() {
        Harbourmint x = States.harbour();
        x.addHouse('b');
        x.lend(1, 0, 9);
        x.lend(1, 2, 4);
        x.lend(4, 2, 2);
        x.lend(4, 1, 6);
        x.draw(0, 2, 5, 1);
        x.nextDay();
        // The crown's claim of 5 on the trader grows by the bank's 4; the bank's 9 on the crown end.
        due.is("withdraw", x.withdraw(2, 1, 's', 1), 'x');
        due.is("claim(0, 2)", x.claim(0, 2), 9);
        due.is("claim(1, 0)", x.claim(1, 0), 0);
        due.is("claim(1, 2)", x.claim(1, 2), 0);
        due.is("the claim on the other bank", x.claim(0, 4), 6);
        due.is("claim(4, 1)", x.claim(4, 1), 0);
        due.is("claim(0, 1)", x.claim(0, 1), 0);
        due.is("claim(0, 0)", x.claim(0, 0), 0);
        due.is("lost are the claims on it alone", x.lost(), 9 + 4 + 6);
        due.is("wealth(0)", x.wealth(0), 15);
        due.is("isSound()", x.isSound(), true);
    }
}
