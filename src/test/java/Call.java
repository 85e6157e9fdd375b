import java.util.Map;

/**
 * One call of the face, written as a text: "pay 2 3 g 1". "min" and "max" stand for the least and the
 * greatest int, and a letter can be told by its number: "#103" is 'g'.
 */
final class Call {
    /** Which of its arguments is a letter, for the calls that take one. */
    private static final Map<String, Integer> LETTER_AT = Map.of("addHouse", 0, "decree", 0, "dig", 1, "mint", 1,
            "recoin", 1, "coins", 1, "ore", 1, "pay", 2, "deposit", 2, "withdraw", 2);

    private final String name;
    private final int[] numbers = new int[4];
    private char letter;

    Call(String name, char letter, int... some) {
        this.name = name;
        this.letter = letter;
        System.arraycopy(some, 0, numbers, 0, some.length);
    }

    static Call of(String text) {
        String[] words = text.trim().split(" ");
        Call call = new Call(words[0], ' ');
        int letterAt = LETTER_AT.getOrDefault(words[0], -1);
        int count = 0;
        for (int n = 1; n < words.length; n++) {
            if (n - 1 == letterAt) {
                call.letter = letterOf(words[n]);
            } else {
                call.numbers[count] = numberOf(words[n]);
                count++;
            }
        }
        return call;
    }

    /** The calls of a text that parts them by ";". */
    static Call[] all(String text) {
        if (text.isBlank()) {
            return new Call[0];
        }
        String[] texts = text.trim().split("\\s*;\\s*");
        Call[] calls = new Call[texts.length];
        for (int n = 0; n < texts.length; n++) {
            calls[n] = of(texts[n]);
        }
        return calls;
    }

    private static char letterOf(String word) {
        return word.length() == 1 ? word.charAt(0) : (char) Integer.parseInt(word.substring(1));
    }

    private static int numberOf(String word) {
        switch (word) {
            case "min": return Integer.MIN_VALUE;
            case "max": return Integer.MAX_VALUE;
            case "true": return 1;
            case "false": return 0;
            default: return Integer.parseInt(word);
        }
    }

    String name() {
        return name;
    }

    /** What the object answers, or the name of the exception that it throws. */
    String ask(Harbourmint x) {
        try {
            return String.valueOf(answer(x, numbers[0], numbers[1], numbers[2], numbers[3]));
        } catch (RuntimeException e) {
            return e.getClass().getSimpleName();
        }
    }

    String ask(Model model) {
        return model.answer(name, numbers[0], numbers[1], numbers[2], numbers[3], letter);
    }

    private Object answer(Harbourmint x, int a, int b, int c, int d) {
        char m = letter;
        switch (name) {
            case "addHouse": return x.addHouse(m);
            case "kindOf": return x.kindOf(a);
            case "dig": return x.dig(a, m, b);
            case "decree": return x.decree(m, a, b);
            case "mint": return x.mint(a, m, b);
            case "clip": return x.clip(a, b);
            case "hoard": return x.hoard(a, b != 0);
            case "recoin": return x.recoin(a, m);
            case "pay": return x.pay(a, b, m, c);
            case "deposit": return x.deposit(a, b, m, c);
            case "withdraw": return x.withdraw(a, b, m, c);
            case "lend": return x.lend(a, b, c);
            case "hand": return x.hand(a, b, c, d);
            case "forgive": return x.forgive(a, b, c);
            case "claim": return x.claim(a, b);
            case "draw": return x.draw(a, b, c, d);
            case "endorse": return x.endorse(a, b);
            case "holderOf": return x.holderOf(a);
            case "nextDay": return x.nextDay();
            case "addShare": return x.addShare(a, b, c);
            case "throwOver": return x.throwOver(a, b, c);
            case "coins": return x.coins(a, m);
            case "weightOf": return x.weightOf(a);
            case "ownerOf": return x.ownerOf(a);
            case "owners": return x.owners(a);
            case "ore": return x.ore(a, m);
            case "wealth": return x.wealth(a);
            case "lost": return x.lost();
            case "lightShare": return x.lightShare();
            case "meanWeight": return x.meanWeight();
            case "isSound": return x.isSound();
            default: throw new Error("no such call: " + name);
        }
    }

    @Override
    public String toString() {
        StringBuilder text = new StringBuilder(name);
        for (int number : numbers) {
            text.append(' ').append(number);
        }
        return text.append(" '").append(letter).append('\'').toString();
    }
}
