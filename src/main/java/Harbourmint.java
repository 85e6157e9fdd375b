/**
 * A state with a mint, banks and traders, whose money is followed coin by coin and claim by claim.
 *
 * Each call of the face first makes its checks, in the order in which the document lists its
 * exceptions, and changes something only when all of them have passed. The books inside (Houses,
 * Metals, Coins, Claims, Bills, Voyages) are reached behind those checks alone, so the numbers of
 * houses, metals, coins, bills and voyages that they are given stand within their rows.
 */
public final class Harbourmint {
    private static final int MOST_HOUSES = 6;
    private static final int MOST_COINS = 90;
    private static final int MOST_BILLS = 12;
    private static final int MOST_ENDORSERS = 5;
    private static final int MOST_VOYAGES = 4;
    private static final int MOST_DUG = 99;
    private static final int MOST_FACE = 99;
    private static final int MOST_FULL_WEIGHT = 9;
    private static final int MOST_CLIPPED = 9;
    private static final int MOST_AMOUNT = 9999;
    private static final int MOST_DAYS = 9;
    private static final int MOST_VALUE = 99;
    private static final int MOST_LOSS = 99;

    private static final int CROWN = 0;
    private static final int GOLD = 0;
    private static final int SILVER = 1;
    private static final int METALS = 2;
    private static final int NONE = -1;

    private final Houses houses = new Houses();
    private final Metals metals = new Metals();
    private final Coins purse = new Coins();
    private final Claims claims = new Claims();
    private final Bills bills = new Bills();
    private final Voyages voyages = new Voyages();
    private long lostAmount;

    public Harbourmint() {
        houses.open('c');
    }

    // Houses and metal

    public int addHouse(char kind) throws IllegalArgumentException, IllegalStateException {
        if (kind != 'b' && kind != 't') {
            throw new IllegalArgumentException("no such kind");
        }
        if (houses.count() >= MOST_HOUSES) {
            throw new IllegalStateException("no more houses");
        }
        return houses.open(kind);
    }

    public char kindOf(int house) throws IndexOutOfBoundsException {
        needHouse(house);
        return houses.isOpen(house) ? houses.kind(house) : 'x';
    }

    public int dig(int house, char metal, int weight)
            throws IndexOutOfBoundsException, IllegalArgumentException, IllegalStateException {
        needHouse(house);
        int m = metalNumber(metal);
        needRange(weight, MOST_DUG);
        needOpen(house);
        metals.unearth(house, m, weight);
        return metals.oreOf(house, m);
    }

    public int decree(char metal, int face, int weight) throws IllegalArgumentException {
        int m = metalNumber(metal);
        needRange(face, MOST_FACE);
        needRange(weight, MOST_FULL_WEIGHT);
        int before = 100 * metals.face(m) + metals.fullWeight(m);
        metals.tell(m, face, weight);
        return before;
    }

    public int mint(int house, char metal, int many)
            throws IndexOutOfBoundsException, IllegalArgumentException, IllegalStateException,
            UnsupportedOperationException {
        needHouse(house);
        int m = metalNumber(metal);
        needRange(many, MOST_COINS);
        needOpen(house);
        if (metals.oreOf(house, m) < many * metals.fullWeight(m)) {
            throw new UnsupportedOperationException("not enough ore");
        }
        if (many > purse.numbersLeft()) {
            throw new UnsupportedOperationException("too many coins");
        }
        int first = purse.count();
        strike(house, m, many);
        return first;
    }

    public int clip(int coin, int weight)
            throws IndexOutOfBoundsException, IllegalArgumentException, UnsupportedOperationException {
        needCoin(coin);
        needRange(weight, MOST_CLIPPED);
        needWhole(coin);
        if (purse.weight(coin) - weight < 1) {
            throw new UnsupportedOperationException("too little would be left");
        }
        purse.lighten(coin, weight);
        metals.addOre(purse.owner(coin), purse.metal(coin), weight);
        return purse.weight(coin);
    }

    public boolean hoard(int coin, boolean isHoarded)
            throws IndexOutOfBoundsException, UnsupportedOperationException {
        needCoin(coin);
        needWhole(coin);
        boolean before = purse.isHoarded(coin);
        purse.setHoarded(coin, isHoarded);
        return before;
    }

    public int recoin(int house, char metal)
            throws IndexOutOfBoundsException, IllegalArgumentException, IllegalStateException {
        needHouse(house);
        int m = metalNumber(metal);
        needOpen(house);
        metals.addOre(house, m, purse.melt(house, m));
        return strike(house, m, MOST_COINS);
    }

    public int pay(int from, int to, char metal, int many)
            throws IndexOutOfBoundsException, IllegalArgumentException, IllegalStateException,
            UnsupportedOperationException {
        needHouse(from);
        needHouse(to);
        int m = metalNumber(metal);
        needRange(many, MOST_COINS);
        needDifferent(from, to);
        needOpen(from);
        needOpen(to);
        needLoose(from, m, many);
        return purse.giveLightest(from, to, m, many);
    }

    // Claims

    public int deposit(int house, int bank, char metal, int many)
            throws IndexOutOfBoundsException, IllegalArgumentException, IllegalStateException,
            UnsupportedOperationException {
        needHouse(house);
        needHouse(bank);
        int m = metalNumber(metal);
        needRange(many, MOST_COINS);
        needCustomer(house, bank);
        needLoose(house, m, many);
        purse.giveLightest(house, bank, m, many);
        claims.add(house, bank, many * metals.face(m));
        return claims.amount(house, bank);
    }

    public char withdraw(int house, int bank, char metal, int many)
            throws IndexOutOfBoundsException, IllegalArgumentException, IllegalStateException,
            UnsupportedOperationException {
        needHouse(house);
        needHouse(bank);
        int m = metalNumber(metal);
        needRange(many, MOST_COINS);
        needCustomer(house, bank);
        int faces = many * metals.face(m);
        needClaim(house, bank, faces);
        if (purse.loose(bank, m) < many) {
            fail(bank);
            return 'x';
        }
        purse.giveLightest(bank, house, m, many);
        claims.add(house, bank, -faces);
        return 'p';
    }

    public int lend(int bank, int house, int amount)
            throws IndexOutOfBoundsException, IllegalArgumentException, IllegalStateException {
        needHouse(bank);
        needHouse(house);
        needRange(amount, MOST_AMOUNT);
        needCustomer(house, bank);
        claims.add(house, bank, amount);
        claims.add(bank, house, amount);
        return claims.amount(house, bank);
    }

    public int hand(int from, int to, int bank, int amount)
            throws IndexOutOfBoundsException, IllegalArgumentException, IllegalStateException,
            UnsupportedOperationException {
        needHouse(from);
        needHouse(to);
        needHouse(bank);
        needRange(amount, MOST_AMOUNT);
        needDifferent(from, to);
        needDifferent(to, bank);
        needCustomer(from, bank);
        needOpen(to);
        needClaim(from, bank, amount);
        claims.add(from, bank, -amount);
        claims.add(to, bank, amount);
        return claims.amount(from, bank);
    }

    public int forgive(int house, int other, int amount)
            throws IndexOutOfBoundsException, IllegalArgumentException, UnsupportedOperationException {
        needHouse(house);
        needHouse(other);
        needRange(amount, MOST_AMOUNT);
        needClaim(house, other, amount);
        claims.add(house, other, -amount);
        return claims.amount(house, other);
    }

    public int claim(int house, int other) throws IndexOutOfBoundsException {
        needHouse(house);
        needHouse(other);
        return claims.amount(house, other);
    }

    // Bills, days and voyages

    public int draw(int drawer, int on, int amount, int days)
            throws IndexOutOfBoundsException, IllegalArgumentException, IllegalStateException,
            UnsupportedOperationException {
        needHouse(drawer);
        needHouse(on);
        needRange(amount, MOST_AMOUNT);
        needRange(days, MOST_DAYS);
        needDifferent(drawer, on);
        needOpen(drawer);
        needOpen(on);
        if (bills.count() >= MOST_BILLS) {
            throw new UnsupportedOperationException("no more bills");
        }
        return bills.write(drawer, on, amount, days);
    }

    public int endorse(int bill, int to)
            throws IndexOutOfBoundsException, IllegalArgumentException, IllegalStateException,
            UnsupportedOperationException {
        needBill(bill);
        needHouse(to);
        int before = bills.holder(bill);
        needDifferent(before, to);
        if (before == NONE) {
            throw new IllegalStateException("the bill came due");
        }
        needOpen(before);
        needOpen(to);
        if (bills.endorsements(bill) >= MOST_ENDORSERS) {
            throw new UnsupportedOperationException("no more endorsers");
        }
        bills.passOn(bill, to);
        return before;
    }

    public int holderOf(int bill) throws IndexOutOfBoundsException {
        needBill(bill);
        return bills.holder(bill);
    }

    public int nextDay() {
        bills.beginDay();
        int made = 0;
        for (int bill = 0; bill < bills.count(); bill++) {
            if (bills.isDueToday(bill) && settle(bill)) {
                made++;
            }
        }
        return made;
    }

    public int addShare(int voyage, int house, int value)
            throws IndexOutOfBoundsException, IllegalArgumentException, IllegalStateException {
        needVoyage(voyage);
        needHouse(house);
        needRange(value, MOST_VALUE);
        needOpen(house);
        voyages.addValue(voyage, house, value);
        return voyages.value(voyage, house);
    }

    public int throwOver(int voyage, int house, int loss)
            throws IndexOutOfBoundsException, IllegalArgumentException, IllegalStateException,
            UnsupportedOperationException {
        needVoyage(voyage);
        needHouse(house);
        needRange(loss, MOST_LOSS);
        needOpen(house);
        needOpenSharers(voyage);
        if (voyages.value(voyage, house) == 0) {
            throw new UnsupportedOperationException("no share");
        }
        voyages.part(voyage, loss);
        for (int other = 0; other < MOST_HOUSES; other++) {
            if (other != house) {
                claims.add(house, other, voyages.borne(other));
            }
        }
        return voyages.borne(house);
    }

    // Asked

    public int coins(int house, char metal) throws IndexOutOfBoundsException, IllegalArgumentException {
        needHouse(house);
        return purse.owned(house, metalNumber(metal));
    }

    public int weightOf(int coin) throws IndexOutOfBoundsException {
        needCoin(coin);
        return purse.weight(coin);
    }

    public int ownerOf(int coin) throws IndexOutOfBoundsException {
        needCoin(coin);
        return purse.owner(coin);
    }

    public int owners(int coin) throws IndexOutOfBoundsException {
        needCoin(coin);
        return purse.ownerCount(coin);
    }

    public int ore(int house, char metal) throws IndexOutOfBoundsException, IllegalArgumentException {
        needHouse(house);
        return metals.oreOf(house, metalNumber(metal));
    }

    public long wealth(int house) throws IndexOutOfBoundsException {
        needHouse(house);
        long faces = 0;
        for (int m = 0; m < METALS; m++) {
            faces += (long) purse.owned(house, m) * metals.face(m);
        }
        return faces + claims.sumOf(house) - claims.sumOn(house);
    }

    public long lost() {
        return lostAmount;
    }

    // Figures

    public float lightShare() throws ArithmeticException {
        int all = needCoins();
        int light = 0;
        for (int m = 0; m < METALS; m++) {
            light += purse.lighter(m, metals.fullWeight(m));
        }
        return (float) light / (float) all;
    }

    public double meanWeight() throws ArithmeticException {
        int all = needCoins();
        int sum = purse.weightOfAll(GOLD) + purse.weightOfAll(SILVER);
        return (double) sum / (double) all;
    }

    public boolean isSound() {
        return isMetalWhole(GOLD) && isMetalWhole(SILVER) && areClaimsSound() && purse.areWhereGiven();
    }

    // Checks: each one throws what the document names, and changes nothing

    private void needHouse(int house) {
        if (house < 0 || house >= houses.count()) {
            throw new IndexOutOfBoundsException("no such house");
        }
    }

    private void needCoin(int coin) {
        if (coin < 0 || coin >= purse.count()) {
            throw new IndexOutOfBoundsException("there never was such a coin");
        }
    }

    private void needBill(int bill) {
        if (bill < 0 || bill >= bills.count()) {
            throw new IndexOutOfBoundsException("no such bill");
        }
    }

    private void needVoyage(int voyage) {
        if (voyage < 0 || voyage >= MOST_VOYAGES) {
            throw new IndexOutOfBoundsException("no such voyage");
        }
    }

    private int metalNumber(char metal) {
        if (metal == 'g') {
            return GOLD;
        }
        if (metal == 's') {
            return SILVER;
        }
        throw new IllegalArgumentException("no such metal");
    }

    private void needRange(int number, int most) {
        if (number < 1 || number > most) {
            throw new IllegalArgumentException("a number is out of range");
        }
    }

    private void needDifferent(int house, int other) {
        if (house == other) {
            throw new IllegalArgumentException("the houses are the same");
        }
    }

    /** What each dealing of a house with a bank asks of the two of them. */
    private void needCustomer(int house, int bank) {
        needDifferent(house, bank);
        // A bank that failed still is a bank here: that it failed is told by the next exception.
        if (houses.kind(bank) != 'b') {
            throw new IllegalArgumentException("it is no bank");
        }
        needOpen(house);
        needOpen(bank);
    }

    private void needOpen(int house) {
        if (!houses.isOpen(house)) {
            throw new IllegalStateException("the house failed");
        }
    }

    private void needOpenSharers(int voyage) {
        for (int house = 0; house < houses.count(); house++) {
            if (voyages.value(voyage, house) != 0) {
                needOpen(house);
            }
        }
    }

    private void needWhole(int coin) {
        if (purse.owner(coin) == NONE) {
            throw new UnsupportedOperationException("the coin was melted");
        }
    }

    private void needLoose(int house, int metal, int many) {
        if (purse.loose(house, metal) < many) {
            throw new UnsupportedOperationException("not so many coins");
        }
    }

    private void needClaim(int house, int on, int amount) {
        if (claims.amount(house, on) < amount) {
            throw new UnsupportedOperationException("the claim is less");
        }
    }

    private int needCoins() {
        int all = purse.unmelted();
        if (all == 0) {
            throw new ArithmeticException("there are no coins");
        }
        return all;
    }

    // Steps that go through several books

    /** Mints coins while ore and numbers last, as many as are wanted at the most. */
    private int strike(int house, int metal, int most) {
        int weight = metals.fullWeight(metal);
        int made = 0;
        while (made < most && purse.numbersLeft() > 0 && metals.oreOf(house, metal) >= weight) {
            metals.addOre(house, metal, -weight);
            purse.add(house, metal, weight);
            made++;
        }
        return made;
    }

    private void fail(int bank) {
        houses.close(bank);
        partCoins(bank);
        lostAmount += claims.dropOn(bank);
        purse.giveAll(bank, CROWN);
        for (int m = 0; m < METALS; m++) {
            metals.moveOre(bank, CROWN, m);
        }
        claims.leaveToCrown(bank);
    }

    /** Gives the coins of a bank that fails to its creditors, until coins or claims are at an end. */
    private void partCoins(int bank) {
        for (int n = 0; n < MOST_COINS; n++) {
            int coin = purse.heaviest(bank);
            int creditor = claims.greatestCreditor(bank);
            if (coin == NONE || creditor == NONE) {
                return;
            }
            int due = claims.amount(creditor, bank);
            int face = metals.face(purse.metal(coin));
            purse.give(coin, creditor);
            claims.add(creditor, bank, -Math.min(due, face));
        }
    }

    /** Ends a bill that came due; tells whether a claim came of it. */
    private boolean settle(int bill) {
        int holder = bills.holder(bill);
        bills.end(bill);
        if (holder == NONE || !houses.isOpen(holder)) {
            return false;
        }
        int debtor = firstOpenLiable(bill);
        if (debtor == NONE || debtor == holder) {
            return false;
        }
        claims.add(holder, debtor, bills.amount(bill));
        return true;
    }

    private int firstOpenLiable(int bill) {
        for (int rank = 0; rank < bills.liableCount(bill); rank++) {
            int house = bills.liable(bill, rank);
            if (houses.isOpen(house)) {
                return house;
            }
        }
        return NONE;
    }

    private boolean isMetalWhole(int metal) {
        return metals.dug(metal) == metals.oreOfAll(metal) + purse.weightOfAll(metal);
    }

    private boolean areClaimsSound() {
        long had = 0;
        long owed = 0;
        for (int house = 0; house < MOST_HOUSES; house++) {
            if (claims.leastOf(house) < 0) {
                return false;
            }
            // Where no claim is less than 0, sums of 0 tell that there is none.
            boolean hasNone = claims.sumOf(house) == 0 && claims.sumOn(house) == 0;
            if (!hasNone && !houses.isOpen(house)) {
                return false;
            }
            had += claims.sumOf(house);
            owed += claims.sumOn(house);
        }
        return had == owed;
    }

    /** The houses, numbered as they come; a house that never was counts as not open. */
    private static final class Houses {
        private final char[] kinds = new char[MOST_HOUSES];
        private final boolean[] open = new boolean[MOST_HOUSES];
        private int count;

        int count() {
            return count;
        }

        int open(char kind) {
            if (count >= MOST_HOUSES) {
                return NONE;
            }
            kinds[count] = kind;
            open[count] = true;
            count++;
            return count - 1;
        }

        void close(int house) {
            open[house] = false;
        }

        char kind(int house) {
            return kinds[house];
        }

        boolean isOpen(int house) {
            return open[house];
        }
    }

    /** What the crown told of the metals, and the ore. */
    private static final class Metals {
        private final int[] faces = {10, 1};
        private final int[] fullWeights = {5, 5};
        private final int[] dug = new int[METALS];
        private final int[] ores = new int[MOST_HOUSES * METALS];

        int face(int metal) {
            return faces[metal];
        }

        int fullWeight(int metal) {
            return fullWeights[metal];
        }

        void tell(int metal, int face, int weight) {
            faces[metal] = face;
            fullWeights[metal] = weight;
        }

        int oreOf(int house, int metal) {
            return ores[house * METALS + metal];
        }

        void addOre(int house, int metal, int weight) {
            ores[house * METALS + metal] += weight;
        }

        void unearth(int house, int metal, int weight) {
            addOre(house, metal, weight);
            dug[metal] += weight;
        }

        void moveOre(int from, int to, int metal) {
            int weight = oreOf(from, metal);
            addOre(from, metal, -weight);
            addOre(to, metal, weight);
        }

        int dug(int metal) {
            return dug[metal];
        }

        int oreOfAll(int metal) {
            int sum = 0;
            for (int house = 0; house < MOST_HOUSES; house++) {
                sum += oreOf(house, metal);
            }
            return sum;
        }
    }

    /** The coins by their numbers; those that were melted keep theirs, with no weight and no owner. */
    private static final class Coins {
        private final int[] metals = new int[MOST_COINS];
        private final int[] weights = new int[MOST_COINS];
        private final int[] houses = new int[MOST_COINS];
        private final int[] ownerCounts = new int[MOST_COINS];
        private final boolean[] hoarded = new boolean[MOST_COINS];
        // A second record of each giving, so that isSound has something to hold the owners against.
        private final int[] lastTakers = new int[MOST_COINS];
        private int count;

        int count() {
            return count;
        }

        int numbersLeft() {
            return MOST_COINS - count;
        }

        void add(int house, int metal, int weight) {
            if (count >= MOST_COINS) {
                return;
            }
            int coin = count;
            count++;
            metals[coin] = metal;
            weights[coin] = weight;
            give(coin, house);
        }

        void give(int coin, int to) {
            houses[coin] = to;
            lastTakers[coin] = to;
            ownerCounts[coin]++;
            hoarded[coin] = false;
        }

        /** Gives up to so many coins that are not hoarded, the lightest first; tells their weight. */
        int giveLightest(int from, int to, int metal, int many) {
            int weight = 0;
            for (int n = 0; n < many; n++) {
                int coin = lightest(from, metal);
                if (coin == NONE) {
                    return weight;
                }
                give(coin, to);
                weight += weights[coin];
            }
            return weight;
        }

        void giveAll(int from, int to) {
            for (int coin = 0; coin < count; coin++) {
                if (houses[coin] == from) {
                    give(coin, to);
                }
            }
        }

        /** Melts the coins of a house and metal that are not hoarded; tells their weight. */
        int melt(int house, int metal) {
            int weight = 0;
            for (int coin = 0; coin < count; coin++) {
                if (isLoose(coin, house, metal)) {
                    weight += weights[coin];
                    weights[coin] = 0;
                    houses[coin] = NONE;
                }
            }
            return weight;
        }

        void lighten(int coin, int weight) {
            weights[coin] -= weight;
        }

        void setHoarded(int coin, boolean isHoarded) {
            hoarded[coin] = isHoarded;
        }

        int metal(int coin) {
            return metals[coin];
        }

        int weight(int coin) {
            return weights[coin];
        }

        int owner(int coin) {
            return houses[coin];
        }

        int ownerCount(int coin) {
            return ownerCounts[coin];
        }

        boolean isHoarded(int coin) {
            return hoarded[coin];
        }

        int owned(int house, int metal) {
            int found = 0;
            for (int coin = 0; coin < count; coin++) {
                if (houses[coin] == house && metals[coin] == metal) {
                    found++;
                }
            }
            return found;
        }

        int loose(int house, int metal) {
            int found = 0;
            for (int coin = 0; coin < count; coin++) {
                if (isLoose(coin, house, metal)) {
                    found++;
                }
            }
            return found;
        }

        int unmelted() {
            int found = 0;
            for (int coin = 0; coin < count; coin++) {
                if (houses[coin] != NONE) {
                    found++;
                }
            }
            return found;
        }

        int lighter(int metal, int weight) {
            int found = 0;
            for (int coin = 0; coin < count; coin++) {
                if (houses[coin] != NONE && metals[coin] == metal && weights[coin] < weight) {
                    found++;
                }
            }
            return found;
        }

        int weightOfAll(int metal) {
            int sum = 0;
            for (int coin = 0; coin < count; coin++) {
                if (metals[coin] == metal) {
                    sum += weights[coin];
                }
            }
            return sum;
        }

        boolean areWhereGiven() {
            for (int coin = 0; coin < count; coin++) {
                if (houses[coin] != NONE && houses[coin] != lastTakers[coin]) {
                    return false;
                }
            }
            return true;
        }

        /** The coin that a failing house gives next, or NONE. */
        int heaviest(int house) {
            int best = NONE;
            for (int coin = 0; coin < count; coin++) {
                if (houses[coin] == house && (best == NONE || isAhead(coin, best))) {
                    best = coin;
                }
            }
            return best;
        }

        private boolean isAhead(int coin, int best) {
            if (weights[coin] != weights[best]) {
                return weights[coin] > weights[best];
            }
            return metals[coin] == GOLD && metals[best] == SILVER;
        }

        private int lightest(int house, int metal) {
            int best = NONE;
            for (int coin = 0; coin < count; coin++) {
                if (isLoose(coin, house, metal) && (best == NONE || weights[coin] < weights[best])) {
                    best = coin;
                }
            }
            return best;
        }

        private boolean isLoose(int coin, int house, int metal) {
            return houses[coin] == house && metals[coin] == metal && !hoarded[coin];
        }
    }

    /** The claim of each house on each other one. */
    private static final class Claims {
        private final int[] amounts = new int[MOST_HOUSES * MOST_HOUSES];

        int amount(int house, int on) {
            return amounts[house * MOST_HOUSES + on];
        }

        void add(int house, int on, int amount) {
            amounts[house * MOST_HOUSES + on] += amount;
        }

        long sumOf(int house) {
            long sum = 0;
            for (int on = 0; on < MOST_HOUSES; on++) {
                sum += amount(house, on);
            }
            return sum;
        }

        long sumOn(int on) {
            long sum = 0;
            for (int house = 0; house < MOST_HOUSES; house++) {
                sum += amount(house, on);
            }
            return sum;
        }

        int leastOf(int house) {
            int least = amount(house, 0);
            for (int on = 1; on < MOST_HOUSES; on++) {
                least = Math.min(least, amount(house, on));
            }
            return least;
        }

        /** The house with the greatest claim on another, of several the lowest one, or NONE. */
        int greatestCreditor(int on) {
            int best = NONE;
            int greatest = 0;
            for (int house = 0; house < MOST_HOUSES; house++) {
                if (amount(house, on) > greatest) {
                    best = house;
                    greatest = amount(house, on);
                }
            }
            return best;
        }

        /** Ends all claims on a house; tells how much they were. */
        long dropOn(int on) {
            long dropped = sumOn(on);
            for (int house = 0; house < MOST_HOUSES; house++) {
                amounts[house * MOST_HOUSES + on] = 0;
            }
            return dropped;
        }

        void leaveToCrown(int house) {
            for (int on = 0; on < MOST_HOUSES; on++) {
                // The crown can have no claim on itself: what it owed the house just ends.
                if (on != CROWN) {
                    add(CROWN, on, amount(house, on));
                }
                amounts[house * MOST_HOUSES + on] = 0;
            }
        }
    }

    /** The bills by their numbers, and the day; a bill that came due has no holder any more. */
    private static final class Bills {
        private final int[] drawers = new int[MOST_BILLS];
        private final int[] drawnOn = new int[MOST_BILLS];
        private final int[] amounts = new int[MOST_BILLS];
        private final int[] dueDays = new int[MOST_BILLS];
        private final int[] holders = new int[MOST_BILLS];
        private final int[] endorsers = new int[MOST_BILLS * MOST_ENDORSERS];
        private final int[] endorserCounts = new int[MOST_BILLS];
        private int count;
        private int today;

        int count() {
            return count;
        }

        int write(int drawer, int on, int amount, int days) {
            if (count >= MOST_BILLS) {
                return NONE;
            }
            int bill = count;
            count++;
            drawers[bill] = drawer;
            drawnOn[bill] = on;
            amounts[bill] = amount;
            dueDays[bill] = today + days;
            holders[bill] = drawer;
            return bill;
        }

        void passOn(int bill, int to) {
            int before = endorserCounts[bill];
            if (before >= MOST_ENDORSERS) {
                return;
            }
            endorsers[bill * MOST_ENDORSERS + before] = holders[bill];
            endorserCounts[bill]++;
            holders[bill] = to;
        }

        void end(int bill) {
            holders[bill] = NONE;
        }

        void beginDay() {
            today++;
        }

        boolean isDueToday(int bill) {
            return dueDays[bill] == today;
        }

        int holder(int bill) {
            return holders[bill];
        }

        int amount(int bill) {
            return amounts[bill];
        }

        int endorsements(int bill) {
            return endorserCounts[bill];
        }

        int liableCount(int bill) {
            return 2 + endorserCounts[bill];
        }

        /** Who answers for a bill, by rank: the one it is on, the drawer, the endorsers from the last. */
        int liable(int bill, int rank) {
            if (rank == 0) {
                return drawnOn[bill];
            }
            if (rank == 1) {
                return drawers[bill];
            }
            return endorsers[bill * MOST_ENDORSERS + endorserCounts[bill] + 1 - rank];
        }
    }

    /** The shares in the voyages, and a row that is used again for each loss. */
    private static final class Voyages {
        private final int[] values = new int[MOST_VOYAGES * MOST_HOUSES];
        private final int[] borne = new int[MOST_HOUSES];
        private final int[] remainders = new int[MOST_HOUSES];

        int value(int voyage, int house) {
            return values[voyage * MOST_HOUSES + house];
        }

        void addValue(int voyage, int house, int value) {
            values[voyage * MOST_HOUSES + house] += value;
        }

        int borne(int house) {
            return borne[house];
        }

        /** Parts a loss by value, into the row that borne() reads. */
        void part(int voyage, int loss) {
            int all = valueOfAll(voyage);
            if (all == 0) {
                return;
            }
            int left = loss;
            for (int house = 0; house < MOST_HOUSES; house++) {
                int product = loss * value(voyage, house);
                borne[house] = product / all;
                remainders[house] = product % all;
                left -= borne[house];
            }
            for (int n = 0; n < left && n < MOST_HOUSES; n++) {
                int house = greatestRemainder();
                borne[house]++;
                remainders[house] = NONE;
            }
        }

        private int valueOfAll(int voyage) {
            int sum = 0;
            for (int house = 0; house < MOST_HOUSES; house++) {
                sum += value(voyage, house);
            }
            return sum;
        }

        private int greatestRemainder() {
            int best = 0;
            for (int house = 1; house < MOST_HOUSES; house++) {
                if (remainders[house] > remainders[best]) {
                    best = house;
                }
            }
            return best;
        }
    }
}
