import java.util.Map;
import java.util.TreeMap;

/** Long mixed runs of calls, each answer held against that of the Model; the same ones every time. */
public final class ModelTest {
    private static final int RUNS = 3000;
    private static final int CALLS = 512;
    private static final String[] CALL_NAMES = {
        "addHouse", "kindOf", "dig", "decree", "mint", "clip", "hoard", "recoin", "pay", "deposit", "withdraw",
        "lend", "hand", "forgive", "claim", "draw", "endorse", "holderOf", "nextDay", "addShare", "throwOver",
        "coins", "weightOf", "ownerOf", "owners", "ore", "wealth", "lost", "lightShare", "meanWeight", "isSound",
        "dig", "mint", "pay", "deposit", "withdraw", "lend", "hand", "claim", "endorse", "weightOf", "ownerOf",
        "owners", "wealth", "hoard", "clip", "withdraw", "addShare", "throwOver",
    };
    /** How often each call gave each kind of answer, to see that the runs reach them all. */
    private static final Map<String, Integer> seen = new TreeMap<>();
    private static long seed = 20261119;

    public static void main(String[] args) {
        Due due = new Due();
        for (int run = 0; run < RUNS; run++) {
            runOnce(due, run);
        }
        String[] rare = {"withdraw x", "withdraw p", "endorse UnsupportedOperationException",
            "draw UnsupportedOperationException", "mint UnsupportedOperationException", "recoin answers",
            "throwOver IllegalStateException", "hand answers", "addHouse IllegalStateException", "forgive answers"};
        for (String answer : rare) {
            due.is("the runs reach " + answer, seen.getOrDefault(answer, 0) >= 20, true);
        }
        due.end();
    }

    private static void runOnce(Due due, int run) {
        Harbourmint x = new Harbourmint();
        Model model = new Model();
        int rareMints = below(4);
        for (int n = 0; n < CALLS; n++) {
            String call = n < 5 ? "addHouse" : CALL_NAMES[below(CALL_NAMES.length)];
            char m = metal(call);
            int[] of = {number(call, 0), number(call, 1), number(call, 2), number(call, 3)};
            if (call.equals("mint") && below(4) < rareMints) {
                continue;
            }
            String want = model.answer(call, of[0], of[1], of[2], of[3], m);
            String got = answer(x, call, of, m);
            due.is("run " + run + ", call " + n + ", " + call + " " + of[0] + " " + of[1] + " " + of[2] + " "
                    + of[3] + " " + m, got, want);
            note(call, got);
        }
    }

    private static void note(String call, String got) {
        String kind = got.endsWith("Exception") || call.equals("withdraw") ? got : "answers";
        seen.merge(call + " " + kind, 1, Integer::sum);
    }

    private static int below(int bound) {
        seed = seed * 6364136223846793005L + 1442695040888963407L;
        return (int) ((seed >>> 33) % bound);
    }

    private static char metal(String call) {
        if (call.equals("addHouse")) {
            return below(12) == 0 ? 'c' : below(2) == 0 ? 'b' : 't';
        }
        return below(40) == 0 ? 'x' : below(2) == 0 ? 'g' : 's';
    }

    /** An argument that mostly fits its place, sometimes stands at the edge, and seldom far beyond. */
    private static int number(String call, int place) {
        int chance = below(200);
        if (chance < 4) {
            int[] edges = {-1, 0, 1, 4, 5, 6, 9, 10, 12, 90, 91, 99, 100, 9999, 10000, Integer.MAX_VALUE,
                Integer.MIN_VALUE};
            return edges[below(edges.length)];
        }
        switch (call) {
            case "dig":
                return place == 0 ? below(6) : 1 + below(99);
            case "decree":
                return place == 0 ? 1 + below(12) : 3 + below(5);
            case "mint":
                return place == 0 ? below(6) : 1 + below(5);
            case "clip":
            case "hoard":
            case "weightOf":
            case "ownerOf":
            case "owners":
                return place == 0 ? below(below(2) == 0 ? 20 : 92) : call.equals("hoard") ? below(2) : 1 + below(3);
            case "pay":
            case "deposit":
            case "withdraw":
                return place < 2 ? below(6) : 1 + below(3);
            case "lend":
                return place < 2 ? below(6) : 1 + below(40);
            case "hand":
                return place < 3 ? below(6) : 1 + below(9);
            case "forgive":
                return place < 2 ? below(6) : 1 + below(20);
            case "draw":
                return place < 2 ? below(6) : place == 2 ? 1 + below(99) : 1 + below(9);
            case "endorse":
            case "holderOf":
                return place == 0 ? below(below(2) == 0 ? 3 : 12) : below(6);
            case "addShare":
            case "throwOver":
                return place == 0 ? below(4) : place == 1 ? below(6) : 1 + below(99);
            default:
                return below(6);
        }
    }

    private static String answer(Harbourmint x, String call, int[] of, char m) {
        try {
            return String.valueOf(asked(x, call, of[0], of[1], of[2], of[3], m));
        } catch (RuntimeException e) {
            return e.getClass().getSimpleName();
        }
    }

    private static Object asked(Harbourmint x, String call, int a, int b, int c, int d, char m) {
        switch (call) {
            case "addHouse": return x.addHouse(m);
            case "kindOf": return x.kindOf(a);
            case "dig": return x.dig(a, m, b);
            case "decree": return x.decree(m, a, b);
            case "mint": return x.mint(a, m, b);
            case "clip": return x.clip(a, b);
            case "hoard": return x.hoard(a, b != 0);
            case "recoin": return x.recoin(a, m);
            case "pay": return x.pay(a, b, m, c);
            case "deposit": return x.deposit(a, b, m, c);
            case "withdraw": return x.withdraw(a, b, m, c);
            case "lend": return x.lend(a, b, c);
            case "hand": return x.hand(a, b, c, d);
            case "forgive": return x.forgive(a, b, c);
            case "claim": return x.claim(a, b);
            case "draw": return x.draw(a, b, c, d);
            case "endorse": return x.endorse(a, b);
            case "holderOf": return x.holderOf(a);
            case "nextDay": return x.nextDay();
            case "addShare": return x.addShare(a, b, c);
            case "throwOver": return x.throwOver(a, b, c);
            case "coins": return x.coins(a, m);
            case "weightOf": return x.weightOf(a);
            case "ownerOf": return x.ownerOf(a);
            case "owners": return x.owners(a);
            case "ore": return x.ore(a, m);
            case "wealth": return x.wealth(a);
            case "lost": return x.lost();
            case "lightShare": return x.lightShare();
            case "meanWeight": return x.meanWeight();
            default: return x.isSound();
        }
    }
}
