import java.util.ArrayList;
import java.util.Comparator;
import java.util.List;
import java.util.stream.Collectors;

/** The document once more, in lists and sorting, to hold the class against. An answer is a text. */
final class Model {
    static final class Coin {
        char metal;
        int weight;
        boolean hoarded;
        /** Who had it, in order; a coin that was melted has none at its end. */
        final List<Integer> had = new ArrayList<>();
        boolean melted;

        int owner() {
            return melted ? -1 : had.get(had.size() - 1);
        }
    }

    static final class Bill {
        int on;
        int amount;
        int day;
        final List<Integer> holders = new ArrayList<>();
        boolean cameDue;

        int holder() {
            return holders.get(holders.size() - 1);
        }
    }

    private final StringBuilder kinds = new StringBuilder("c");
    private final StringBuilder failed = new StringBuilder("-");
    private final List<Coin> coins = new ArrayList<>();
    private final List<Bill> bills = new ArrayList<>();
    private final int[][] claims = new int[6][6];
    private final int[][] ore = new int[6][128];
    private final int[][] shares = new int[4][6];
    private final int[] face = new int[128];
    private final int[] full = new int[128];
    private int day;
    private long lost;

    Model() {
        face['g'] = 10;
        face['s'] = 1;
        full['g'] = 5;
        full['s'] = 5;
    }

    /** A wrong call's exception, or null; the conditions stand in the document's order. */
    private static String first(Object... pairs) {
        for (int i = 0; i < pairs.length; i += 2) {
            if ((Boolean) pairs[i]) {
                return (String) pairs[i + 1];
            }
        }
        return null;
    }

    private static final String INDEX = "IndexOutOfBoundsException";
    private static final String ARGUMENT = "IllegalArgumentException";
    private static final String STATE = "IllegalStateException";
    private static final String UNSUPPORTED = "UnsupportedOperationException";

    private boolean no(int... houses) {
        for (int house : houses) {
            if (house < 0 || house >= kinds.length()) {
                return true;
            }
        }
        return false;
    }

    private static boolean noMetal(char metal) {
        return "gs".indexOf(metal) < 0;
    }

    private static boolean out(int number, int most) {
        return number < 1 || number > most;
    }

    private boolean gone(int... houses) {
        for (int house : houses) {
            if (house >= 0 && house < kinds.length() && failed.charAt(house) == 'x') {
                return true;
            }
        }
        return false;
    }

    private boolean noBank(int house) {
        return no(house) || kinds.charAt(house) != 'b';
    }

    private int claimOf(int house, int on) {
        return no(house, on) ? 0 : claims[house][on];
    }

    private List<Coin> owned(int house, String metals) {
        return coins.stream().filter(c -> c.owner() == house && metals.indexOf(c.metal) >= 0)
                .collect(Collectors.toList());
    }

    private List<Coin> lightest(int house, char metal) {
        return owned(house, String.valueOf(metal)).stream().filter(c -> !c.hoarded)
                .sorted(Comparator.comparingInt(c -> c.weight)).collect(Collectors.toList());
    }

    private int move(List<Coin> some, int to) {
        int weight = 0;
        for (Coin coin : some) {
            coin.had.add(to);
            coin.hoarded = false;
            weight += coin.weight;
        }
        return weight;
    }

    private void strike(int house, char metal) {
        Coin coin = new Coin();
        coin.metal = metal;
        coin.weight = full[metal];
        coin.had.add(house);
        ore[house][metal] -= coin.weight;
        coins.add(coin);
    }

    private void fail(int bank) {
        failed.setCharAt(bank, 'x');
        List<Coin> heavy = owned(bank, "gs");
        heavy.sort(Comparator.<Coin>comparingInt(c -> -c.weight).thenComparing(c -> c.metal));
        for (Coin coin : heavy) {
            int best = 0;
            for (int house = 0; house < 6; house++) {
                best = claims[house][bank] > claims[best][bank] ? house : best;
            }
            move(List.of(coin), best);
            claims[best][bank] = Math.max(0, claims[best][bank] - face[coin.metal]);
            // With no claim left the crown is the best one, which is where the coins that are left go.
        }
        for (int house = 0; house < 6; house++) {
            lost += claims[house][bank];
            claims[house][bank] = 0;
            claims[0][house] += house == 0 ? 0 : claims[bank][house];
            claims[bank][house] = 0;
        }
        for (char metal : new char[] {'g', 's'}) {
            ore[0][metal] += ore[bank][metal];
            ore[bank][metal] = 0;
        }
    }

    private int comeDue(Bill bill) {
        bill.cameDue = true;
        List<Integer> liable = new ArrayList<>();
        liable.add(bill.on);
        liable.add(bill.holders.get(0));
        for (int i = bill.holders.size() - 2; i >= 0; i--) {
            liable.add(bill.holders.get(i));
        }
        for (int house : liable) {
            if (!gone(house)) {
                boolean claimed = house != bill.holder() && !gone(bill.holder());
                claims[bill.holder()][house] += claimed ? bill.amount : 0;
                return claimed ? 1 : 0;
            }
        }
        return 0;
    }

    /** What each house bears: the whole part, and 1 more for as many as are left, by remainder. */
    private int[] parted(int voyage, int loss) {
        int sum = 0;
        for (int value : shares[voyage]) {
            sum += value;
        }
        int[] borne = new int[6];
        int left = loss;
        List<Integer> order = new ArrayList<>();
        for (int house = 0; house < 6; house++) {
            borne[house] = loss * shares[voyage][house] / sum;
            left -= borne[house];
            order.add(house);
        }
        int all = sum;
        order.sort(Comparator.comparingInt(h -> -(loss * shares[voyage][h] % all)));
        for (int house : order.subList(0, left)) {
            borne[house]++;
        }
        return borne;
    }

    private boolean sharerFailed(int voyage) {
        for (int house = 0; house < 6; house++) {
            if (shares[voyage][house] > 0 && gone(house)) {
                return true;
            }
        }
        return false;
    }

    private boolean noCoin(int coin) {
        return coin < 0 || coin >= coins.size();
    }

    private boolean melted(int coin) {
        return !noCoin(coin) && coins.get(coin).melted;
    }

    private List<Coin> whole() {
        return coins.stream().filter(c -> !c.melted).collect(Collectors.toList());
    }

    String answer(String call, int a, int b, int c, int d, char m) {
        String wrong = wrong(call, a, b, c, d, m);
        return wrong != null ? wrong : String.valueOf(right(call, a, b, c, d, m));
    }

    private String wrong(String call, int a, int b, int c, int d, char m) {
        boolean same = a == b;
        switch (call) {
            case "addHouse":
                return first("bt".indexOf(m) < 0, ARGUMENT, kinds.length() == 6, STATE);
            case "kindOf":
            case "wealth":
                return first(no(a), INDEX);
            case "dig":
                return first(no(a), INDEX, noMetal(m) || out(b, 99), ARGUMENT, gone(a), STATE);
            case "decree":
                return first(noMetal(m) || out(a, 99) || out(b, 9), ARGUMENT);
            case "mint":
                return first(no(a), INDEX, noMetal(m) || out(b, 90), ARGUMENT, gone(a), STATE,
                        no(a) || ore[a][m & 127] < b * full[m & 127] || coins.size() + b > 90, UNSUPPORTED);
            case "clip":
                return first(noCoin(a), INDEX, out(b, 9), ARGUMENT,
                        noCoin(a) || melted(a) || coins.get(a).weight <= b, UNSUPPORTED);
            case "hoard":
                return first(noCoin(a), INDEX, melted(a), UNSUPPORTED);
            case "recoin":
                return first(no(a), INDEX, noMetal(m), ARGUMENT, gone(a), STATE);
            case "pay":
                return first(no(a, b), INDEX, noMetal(m) || out(c, 90) || same, ARGUMENT, gone(a, b), STATE,
                        lightest(a, m).size() < c, UNSUPPORTED);
            case "deposit":
                return first(no(a, b), INDEX, noMetal(m) || out(c, 90) || same || noBank(b), ARGUMENT,
                        gone(a, b), STATE, lightest(a, m).size() < c, UNSUPPORTED);
            case "withdraw":
                return first(no(a, b), INDEX, noMetal(m) || out(c, 90) || same || noBank(b), ARGUMENT,
                        gone(a, b), STATE, claimOf(a, b) < c * face[m & 127], UNSUPPORTED);
            case "lend":
                return first(no(a, b), INDEX, out(c, 9999) || same || noBank(a), ARGUMENT, gone(a, b), STATE);
            case "hand":
                return first(no(a, b, c), INDEX, out(d, 9999) || same || a == c || b == c || noBank(c), ARGUMENT,
                        gone(a, b, c), STATE, claimOf(a, c) < d, UNSUPPORTED);
            case "forgive":
                return first(no(a, b), INDEX, out(c, 9999), ARGUMENT, claimOf(a, b) < c, UNSUPPORTED);
            case "claim":
                return first(no(a, b), INDEX);
            default:
                return wrongOfTheRest(call, a, b, c, d, m);
        }
    }

    private String wrongOfTheRest(String call, int a, int b, int c, int d, char m) {
        boolean noBill = a < 0 || a >= bills.size();
        boolean noVoyage = a < 0 || a > 3;
        switch (call) {
            case "draw":
                return first(no(a, b), INDEX, out(c, 9999) || out(d, 9) || a == b, ARGUMENT, gone(a, b), STATE,
                        bills.size() == 12, UNSUPPORTED);
            case "endorse":
                if (noBill || no(b)) {
                    return INDEX;
                }
                Bill bill = bills.get(a);
                // Whether who held a bill when it came due still is its holder, the document leaves open.
                return first(bill.cameDue && bill.holder() == b, STATE + " or " + ARGUMENT,
                        bill.holder() == b, ARGUMENT, bill.cameDue || gone(b, bill.holder()), STATE,
                        bill.holders.size() > 5, UNSUPPORTED);
            case "holderOf":
                return first(noBill, INDEX);
            case "addShare":
                return first(noVoyage || no(b), INDEX, out(c, 99), ARGUMENT, gone(b), STATE);
            case "throwOver":
                return first(noVoyage || no(b), INDEX, out(c, 99), ARGUMENT, gone(b) || sharerFailed(a & 3), STATE,
                        no(b) || shares[a & 3][b] == 0, UNSUPPORTED);
            case "coins":
            case "ore":
                return first(no(a), INDEX, noMetal(m), ARGUMENT);
            case "weightOf":
            case "ownerOf":
            case "owners":
                return first(noCoin(a), INDEX);
            case "lightShare":
            case "meanWeight":
                return first(whole().isEmpty(), "ArithmeticException");
            default:
                return null;
        }
    }

    private Object right(String call, int a, int b, int c, int d, char m) {
        switch (call) {
            case "addHouse":
                kinds.append(m);
                failed.append('-');
                return kinds.length() - 1;
            case "kindOf":
                return gone(a) ? 'x' : kinds.charAt(a);
            case "dig":
                ore[a][m] += b;
                return ore[a][m];
            case "decree":
                int before = 100 * face[m] + full[m];
                face[m] = a;
                full[m] = b;
                return before;
            case "mint":
                int number = coins.size();
                for (int i = 0; i < b; i++) {
                    strike(a, m);
                }
                return number;
            case "clip":
                Coin clipped = coins.get(a);
                clipped.weight -= b;
                ore[clipped.owner()][clipped.metal] += b;
                return clipped.weight;
            case "hoard":
                boolean was = coins.get(a).hoarded;
                coins.get(a).hoarded = b != 0;
                return was;
            case "recoin":
                for (Coin coin : lightest(a, m)) {
                    ore[a][m] += coin.weight;
                    coin.weight = 0;
                    coin.melted = true;
                }
                int most = Math.min(ore[a][m] / full[m], 90 - coins.size());
                for (int i = 0; i < most; i++) {
                    strike(a, m);
                }
                return most;
            case "pay":
                return move(lightest(a, m).subList(0, c), b);
            default:
                return rightOfClaims(call, a, b, c, d, m);
        }
    }

    private Object rightOfClaims(String call, int a, int b, int c, int d, char m) {
        switch (call) {
            case "deposit":
                move(lightest(a, m).subList(0, c), b);
                return claims[a][b] += c * face[m];
            case "withdraw":
                if (lightest(b, m).size() < c) {
                    fail(b);
                    return 'x';
                }
                move(lightest(b, m).subList(0, c), a);
                claims[a][b] -= c * face[m];
                return 'p';
            case "lend":
                claims[a][b] += c;
                return claims[b][a] += c;
            case "hand":
                claims[b][c] += d;
                return claims[a][c] -= d;
            case "forgive":
                return claims[a][b] -= c;
            case "claim":
                return claims[a][b];
            default:
                return rightOfBills(call, a, b, c, d, m);
        }
    }

    private Object rightOfBills(String call, int a, int b, int c, int d, char m) {
        switch (call) {
            case "draw":
                Bill drawn = new Bill();
                drawn.on = b;
                drawn.amount = c;
                drawn.day = day + d;
                drawn.holders.add(a);
                bills.add(drawn);
                return bills.size() - 1;
            case "endorse":
                int before = bills.get(a).holder();
                bills.get(a).holders.add(b);
                return before;
            case "holderOf":
                return bills.get(a).cameDue ? -1 : bills.get(a).holder();
            case "nextDay":
                day++;
                int made = 0;
                for (Bill bill : bills) {
                    made += bill.day == day ? comeDue(bill) : 0;
                }
                return made;
            case "addShare":
                return shares[a][b] += c;
            case "throwOver":
                int[] borne = parted(a, c);
                for (int house = 0; house < 6; house++) {
                    claims[b][house] += house == b ? 0 : borne[house];
                }
                return borne[b];
            default:
                return rightOfAsking(call, a, m);
        }
    }

    private Object rightOfAsking(String call, int a, char m) {
        switch (call) {
            case "coins":
                return owned(a, String.valueOf(m)).size();
            case "weightOf":
                return coins.get(a).weight;
            case "ownerOf":
                return coins.get(a).owner();
            case "owners":
                return coins.get(a).had.size();
            case "ore":
                return ore[a][m];
            case "wealth":
                long wealth = owned(a, "gs").stream().mapToLong(c -> face[c.metal]).sum();
                for (int house = 0; house < 6; house++) {
                    wealth += claims[a][house] - claims[house][a];
                }
                return wealth;
            case "lost":
                return lost;
            case "lightShare":
                return (float) whole().stream().filter(c -> c.weight < full[c.metal]).count() / (float) whole().size();
            case "meanWeight":
                return (double) whole().stream().mapToInt(c -> c.weight).sum() / (double) whole().size();
            default:
                return true;
        }
    }
}
