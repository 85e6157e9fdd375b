import java.util.ArrayList;
import java.util.LinkedHashMap;
import java.util.List;
import java.util.Map;

/**
 * Each call with every choice of values at the edges of its arguments, on objects in several states:
 * the answer, and the state after it, held against those of the Model.
 */
public final class GridTest {
    private static final String HOUSES = "min -1 0 1 2 3 4 5 max";
    private static final String METALS = "g s x";
    private static final String MANY = "min 0 1 2 3 4 90 91 max";
    private static final String AMOUNTS = "min 0 1 30 31 32 9999 10000 max";
    private static final String COINS = "min -1 0 1 4 5 6 90 max";
    private static final String BILLS = "min -1 0 1 2 3 11 12 max";
    private static final String VOYAGES = "min -1 0 1 2 3 4 max";
    private static final String TO_99 = "min 0 1 2 98 99 100 max";
    private static final String TO_9 = "min 0 1 4 5 8 9 10 max";

    /** Bills in each state, shares beside one of a house that failed, coins hoarded and clipped. */
    private static final String LATE = Given.HARBOUR + "addHouse b; addShare 1 4 3; addShare 1 2 5; addShare 0 2 7; "
            + "addShare 0 0 4; draw 2 3 9 1; draw 2 3 8 9; draw 4 2 7 9; nextDay; lend 4 3 1; withdraw 3 4 s 1; "
            + "forgive 0 3 1; dig 2 g 30; mint 2 g 5; pay 2 3 g 1; recoin 3 g; clip 1 2; hoard 2 true; dig 1 g 4; "
            + "dig 1 s 10; mint 1 s 1; lend 1 2 31; lend 1 3 20; decree s 3 4; ";
    private static final String[] STATES = {"", Given.DEPOSITED, LATE};

    private static final Due due = new Due();

    public static void main(String[] args) {
        for (String state : STATES) {
            for (Map.Entry<String, String[]> call : arguments().entrySet()) {
                for (String text : products(call.getKey(), call.getValue())) {
                    hold(state, text);
                }
            }
        }
        due.is("the calls are many", due.asked() > 50000, true);
        due.end();
    }

    private static Map<String, String[]> arguments() {
        Map<String, String[]> all = new LinkedHashMap<>();
        all.put("addHouse", new String[] {"b t c x #0 #65535"});
        all.put("kindOf", new String[] {HOUSES});
        all.put("dig", new String[] {HOUSES, METALS, TO_99});
        all.put("decree", new String[] {METALS, TO_99, TO_9});
        all.put("mint", new String[] {HOUSES, METALS, MANY});
        all.put("clip", new String[] {COINS, TO_9});
        all.put("hoard", new String[] {COINS, "true false"});
        all.put("recoin", new String[] {HOUSES, METALS});
        all.put("pay", new String[] {HOUSES, HOUSES, METALS, MANY});
        all.put("deposit", new String[] {HOUSES, HOUSES, METALS, MANY});
        all.put("withdraw", new String[] {HOUSES, HOUSES, METALS, MANY});
        all.put("lend", new String[] {HOUSES, HOUSES, AMOUNTS});
        all.put("hand", new String[] {HOUSES, HOUSES, HOUSES, AMOUNTS});
        all.put("forgive", new String[] {HOUSES, HOUSES, AMOUNTS});
        all.put("claim", new String[] {HOUSES, HOUSES});
        all.put("draw", new String[] {HOUSES, HOUSES, AMOUNTS, TO_9});
        all.put("endorse", new String[] {BILLS, HOUSES});
        all.put("holderOf", new String[] {BILLS});
        all.put("nextDay", new String[] {});
        all.put("addShare", new String[] {VOYAGES, HOUSES, TO_99});
        all.put("throwOver", new String[] {VOYAGES, HOUSES, TO_99});
        all.put("coins", new String[] {HOUSES, METALS});
        all.put("weightOf", new String[] {COINS});
        all.put("ownerOf", new String[] {COINS});
        all.put("owners", new String[] {COINS});
        all.put("ore", new String[] {HOUSES, METALS});
        all.put("wealth", new String[] {HOUSES});
        all.put("lost", new String[] {});
        all.put("lightShare", new String[] {});
        all.put("meanWeight", new String[] {});
        all.put("isSound", new String[] {});
        return all;
    }

    private static List<String> products(String start, String[] values) {
        List<String> texts = List.of(start);
        for (String choice : values) {
            List<String> longer = new ArrayList<>();
            for (String text : texts) {
                for (String value : choice.split(" ")) {
                    longer.add(text + " " + value);
                }
            }
            texts = longer;
        }
        return texts;
    }

    private static void hold(String state, String text) {
        Call call = Call.of(text);
        Harbourmint x = new Harbourmint();
        Model model = new Model();
        for (Call made : Call.all(state)) {
            made.ask(x);
            made.ask(model);
        }
        String answer = call.ask(model);
        due.isOneOf("[" + state + "] " + text, call.ask(x), answer);
        String got = Probe.of(x);
        String wanted = answer.endsWith("Exception") ? untouched(state) : Probe.of(model);
        if (!got.equals(wanted)) {
            due.is("[" + state + "] after " + text, Probe.difference(got, wanted), "nothing differs");
        }
    }

    private static final Map<String, String> untouchedOnes = new LinkedHashMap<>();

    private static String untouched(String state) {
        return untouchedOnes.computeIfAbsent(state, texts -> {
            Model model = new Model();
            for (Call made : Call.all(texts)) {
                made.ask(model);
            }
            return Probe.of(model);
        });
    }
}
