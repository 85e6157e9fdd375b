import java.util.ArrayList;
import java.util.LinkedHashMap;
import java.util.List;
import java.util.Map;

/**
 * Tests that each bear a sentence of the document. A test tells the sentence with says(), brings objects
 * to a state with given(), and asks them. At the end, no sentence of the document may be without one.
 */
final class Edges {
    private static final int MOST_CALLS = 512;

    private final Due due = new Due();
    private final Map<String, List<String>> open = new LinkedHashMap<>();
    private String heading = "";
    private String sentence = "";
    private int askedBefore;
    private String givenText = "";
    private Call[] given = {};
    private String untouched;
    private Harbourmint current;
    private int calls;

    Edges() {
        Doc.sentences().forEach((place, told) -> open.put(place, new ArrayList<>(told)));
    }

    void section(String place) {
        endSentence();
        heading = place;
        due.is("the document has the section " + place, open.containsKey(place), true);
    }

    void says(String told) {
        endSentence();
        sentence = told;
        askedBefore = due.asked();
        due.about(heading + ": " + told);
        boolean isThere = open.containsKey(heading) && open.get(heading).remove(told);
        if (!isThere) {
            due.is("the document says this, and it is told once", false, true);
        }
        given("");
    }

    private void endSentence() {
        if (!sentence.isEmpty()) {
            due.is("the sentence has a test", due.asked() > askedBefore, true);
        }
        sentence = "";
        due.about("");
    }

    /** The calls that each object of the tests that follow is brought to its state by. */
    void given(String texts) {
        givenText = texts;
        given = Call.all(texts);
        untouched = null;
    }

    /** A new object in the state that is given answers so. */
    void answers(String call, Object answer) {
        current = made();
        then(call, answer);
    }

    /** The object of the test ahead of this one goes on, and answers so. */
    void then(String call, Object answer) {
        calls++;
        due.is("[" + givenText + "] " + call, Call.of(call).ask(current), String.valueOf(answer));
        due.is("calls are within " + MOST_CALLS, calls <= MOST_CALLS, true);
    }

    /** A new object answers so, and is the same as ahead of the call. */
    void asks(String call, Object answer) {
        answers(call, answer);
        isUntouched(call);
    }

    /** A new object throws so, and is the same as ahead of the call. */
    void refuses(String call, String exception) {
        current = made();
        calls++;
        due.isOneOf("[" + givenText + "] " + call, Call.of(call).ask(current), exception);
        isUntouched(call);
    }

    /** Each value is put at the "?" of the call. */
    void refusesEach(String call, String exception, String... values) {
        for (String value : values) {
            refuses(call.replace("?", value), exception);
        }
    }

    private void isUntouched(String call) {
        if (untouched == null) {
            untouched = Probe.of(made());
        }
        calls += Probe.length();
        String got = Probe.of(current);
        if (!got.equals(untouched)) {
            due.is("[" + givenText + "] after " + call, Probe.difference(got, untouched), "nothing differs");
        }
        due.is("calls are within " + MOST_CALLS, calls <= MOST_CALLS, true);
    }

    private Harbourmint made() {
        Harbourmint x = new Harbourmint();
        for (Call call : given) {
            String answer = call.ask(x);
            if (answer.endsWith("Exception")) {
                due.is("[" + givenText + "] " + call + " makes the state", answer, "an answer");
            }
        }
        calls = given.length;
        return x;
    }

    void end() {
        endSentence();
        open.forEach((place, left) -> due.is(place + ", sentences without a test", left.toString(), "[]"));
        due.end();
    }
}
