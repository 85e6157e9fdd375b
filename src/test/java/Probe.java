import java.util.ArrayList;
import java.util.List;

/**
 * All that can be learned of an object by asking and by going on with it, as one text: two objects in
 * the same state give the same text. The object is used up by it.
 */
final class Probe {
    private static final int[] COINS = {0, 1, 2, 3, 4, 5, 6, 7, 8, 9, 44, 88, 89};
    private static final int HOUSES = 6;
    private static final int BILLS = 12;
    private static final int VOYAGES = 4;
    private static final Call[] CALLS = calls();

    private Probe() {
    }

    static int length() {
        return CALLS.length;
    }

    static String of(Harbourmint x) {
        StringBuilder all = new StringBuilder();
        for (Call call : CALLS) {
            all.append(call.ask(x)).append('\n');
        }
        return all.toString();
    }

    static String of(Model model) {
        StringBuilder all = new StringBuilder();
        for (Call call : CALLS) {
            all.append(call.ask(model)).append('\n');
        }
        return all.toString();
    }

    /** The first answers that differ, told with their call. */
    static String difference(String got, String due) {
        String[] gotLines = got.split("\n");
        String[] dueLines = due.split("\n");
        for (int n = 0; n < CALLS.length; n++) {
            if (!gotLines[n].equals(dueLines[n])) {
                return CALLS[n] + " answers " + gotLines[n] + " and not " + dueLines[n];
            }
        }
        return "nothing differs";
    }

    private static Call[] calls() {
        List<String> calls = new ArrayList<>();
        askHouses(calls);
        for (int coin : COINS) {
            calls.add("weightOf " + coin);
            calls.add("ownerOf " + coin);
            calls.add("owners " + coin);
        }
        for (int bill = 0; bill < BILLS; bill++) {
            calls.add("holderOf " + bill);
        }
        calls.addAll(List.of("lost", "lightShare", "meanWeight", "isSound"));
        // From here on the calls change the object, to bring out what can not be asked.
        calls.addAll(List.of("decree g 1 1", "decree s 1 1"));
        for (int coin : COINS) {
            calls.add("hoard " + coin + " false");
        }
        for (int voyage = 0; voyage < VOYAGES; voyage++) {
            calls.add("throwOver " + voyage + " 2 97");
            for (int house = 0; house < HOUSES; house++) {
                calls.add("addShare " + voyage + " " + house + " 1");
            }
        }
        calls.addAll(List.of("dig 0 g 9", "mint 0 g 1", "addHouse t"));
        for (int n = 0; n < 3; n++) {
            calls.addAll(List.of("endorse 0 0", "endorse 0 3", "endorse 1 0", "endorse 1 3"));
        }
        calls.add("draw 0 2 1 9");
        for (int day = 0; day < 9; day++) {
            calls.add("nextDay");
        }
        askClaims(calls);
        return calls.stream().map(Call::of).toArray(Call[]::new);
    }

    private static void askHouses(List<String> calls) {
        for (int house = 0; house < HOUSES; house++) {
            calls.addAll(List.of("kindOf " + house, "wealth " + house, "coins " + house + " g", "coins " + house + " s",
                    "ore " + house + " g", "ore " + house + " s"));
        }
        askClaims(calls);
    }

    private static void askClaims(List<String> calls) {
        for (int house = 0; house < HOUSES; house++) {
            for (int other = 0; other < HOUSES; other++) {
                calls.add("claim " + house + " " + other);
            }
        }
    }
}
