import java.util.Map;
import java.util.TreeMap;

/** Long mixed runs of calls, each answer held against that of the Model; the same ones every time. */
public final class ModelTest {
    private static final int RUNS = 3000;
    private static final int CALLS = 512;
    private static final String[] CALL_NAMES = {
        "addHouse", "kindOf", "dig", "decree", "mint", "clip", "hoard", "recoin", "pay", "deposit", "withdraw",
        "lend", "hand", "forgive", "claim", "draw", "endorse", "holderOf", "nextDay", "addShare", "throwOver",
        "coins", "weightOf", "ownerOf", "owners", "ore", "wealth", "lost", "lightShare", "meanWeight", "isSound",
        "dig", "mint", "pay", "deposit", "withdraw", "lend", "hand", "claim", "endorse", "weightOf", "ownerOf",
        "owners", "wealth", "hoard", "clip", "withdraw", "addShare", "throwOver",
    };
    /** How often each call gave each kind of answer, to see that the runs reach them all. */
    private static final Map<String, Integer> seen = new TreeMap<>();
    private static long seed = 20261119;

    public static void main(String[] args) {
        Due due = new Due();
        for (int run = 0; run < RUNS; run++) {
            runOnce(due, run);
        }
        String[] rare = {"withdraw x", "withdraw p", "endorse UnsupportedOperationException",
            "draw UnsupportedOperationException", "mint UnsupportedOperationException", "recoin answers",
            "throwOver IllegalStateException", "hand answers", "addHouse IllegalStateException", "forgive answers"};
        for (String answer : rare) {
            due.is("the runs reach " + answer, seen.getOrDefault(answer, 0) >= 20, true);
        }
        due.end();
    }

    private static void runOnce(Due due, int run) {
        Harbourmint x = new Harbourmint();
        Model model = new Model();
        int rareMints = below(4);
        for (int n = 0; n < CALLS; n++) {
            String call = n < 5 ? "addHouse" : CALL_NAMES[below(CALL_NAMES.length)];
            char m = metal(call);
            int[] of = {number(call, 0), number(call, 1), number(call, 2), number(call, 3)};
            if (call.equals("mint") && below(4) < rareMints) {
                continue;
            }
            Call asked = new Call(call, m, of);
            String got = asked.ask(x);
            due.isOneOf("run " + run + ", call " + n + ", " + asked, got, asked.ask(model));
            note(call, got);
        }
    }

    private static void note(String call, String got) {
        String kind = got.endsWith("Exception") || call.equals("withdraw") ? got : "answers";
        seen.merge(call + " " + kind, 1, Integer::sum);
    }

    private static int below(int bound) {
        seed = seed * 6364136223846793005L + 1442695040888963407L;
        return (int) ((seed >>> 33) % bound);
    }

    private static char metal(String call) {
        if (call.equals("addHouse")) {
            return below(12) == 0 ? 'c' : below(2) == 0 ? 'b' : 't';
        }
        return below(40) == 0 ? 'x' : below(2) == 0 ? 'g' : 's';
    }

    /** An argument that mostly fits its place, sometimes stands at the edge, and seldom far beyond. */
    private static int number(String call, int place) {
        int chance = below(200);
        if (chance < 4) {
            int[] edges = {-1, 0, 1, 4, 5, 6, 9, 10, 12, 90, 91, 99, 100, 9999, 10000, Integer.MAX_VALUE,
                Integer.MIN_VALUE};
            return edges[below(edges.length)];
        }
        switch (call) {
            case "dig":
                return place == 0 ? below(6) : 1 + below(99);
            case "decree":
                return place == 0 ? 1 + below(12) : 3 + below(5);
            case "mint":
                return place == 0 ? below(6) : 1 + below(5);
            case "clip":
            case "hoard":
            case "weightOf":
            case "ownerOf":
            case "owners":
                return place == 0 ? below(below(2) == 0 ? 20 : 92) : call.equals("hoard") ? below(2) : 1 + below(3);
            case "pay":
            case "deposit":
            case "withdraw":
                return place < 2 ? below(6) : 1 + below(3);
            case "lend":
                return place < 2 ? below(6) : 1 + below(40);
            case "hand":
                return place < 3 ? below(6) : 1 + below(9);
            case "forgive":
                return place < 2 ? below(6) : 1 + below(20);
            case "draw":
                return place < 2 ? below(6) : place == 2 ? 1 + below(99) : 1 + below(9);
            case "endorse":
            case "holderOf":
                return place == 0 ? below(below(2) == 0 ? 3 : 12) : below(6);
            case "addShare":
            case "throwOver":
                return place == 0 ? below(4) : place == 1 ? below(6) : 1 + below(99);
            default:
                return below(6);
        }
    }
}
