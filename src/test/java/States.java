/** States that several tests begin with, and what can be asked of one without changing it. */
final class States {
    private States() {
    }

    /** The crown 0, the bank 1, the traders 2 and 3. */
    static Harbourmint harbour() {
        Harbourmint x = new Harbourmint();
        x.addHouse('b');
        x.addHouse('t');
        x.addHouse('t');
        return x;
    }

    /** The harbour, in which the house has as many new coins of the metal. */
    static Harbourmint minted(int house, char metal, int many) {
        Harbourmint x = harbour();
        dig(x, house, metal, 5 * many);
        x.mint(house, metal, many);
        return x;
    }

    /** The harbour, whose bank failed over a claim of 1 of the trader 2, which is lost. */
    static Harbourmint broken() {
        Harbourmint x = harbour();
        breakBank(x, 1, 2);
        return x;
    }

    /** Lets a bank fail that has no silver, by a claim of 1 of the house. */
    static void breakBank(Harbourmint x, int bank, int house) {
        x.lend(bank, house, 1);
        x.withdraw(house, bank, 's', 1);
    }

    static void dig(Harbourmint x, int house, char metal, int weight) {
        for (int left = weight; left > 0; left -= 99) {
            x.dig(house, metal, Math.min(left, 99));
        }
    }

    /** All that the harbour answers when it is asked, as one text. */
    static String asked(Harbourmint x, int houses, int coins, int bills) {
        StringBuilder all = new StringBuilder();
        for (int house = 0; house < houses; house++) {
            all.append(x.kindOf(house)).append(' ').append(x.wealth(house));
            for (char metal : new char[] {'g', 's'}) {
                all.append(' ').append(x.coins(house, metal)).append(' ').append(x.ore(house, metal));
            }
            for (int other = 0; other < houses; other++) {
                all.append(' ').append(x.claim(house, other));
            }
            all.append('\n');
        }
        for (int coin = 0; coin < coins; coin++) {
            all.append(x.weightOf(coin)).append(' ').append(x.ownerOf(coin)).append(' ').append(x.owners(coin));
            all.append('\n');
        }
        for (int bill = 0; bill < bills; bill++) {
            all.append(x.holderOf(bill)).append('\n');
        }
        return all.append(x.lost()).append(' ').append(x.isSound()).toString();
    }
}
