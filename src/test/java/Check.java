import java.nio.charset.StandardCharsets;
import java.util.NoSuchElementException;

/** What the tests share: compares answers, counts the wrong ones, feeds texts. */
final class Check {
    interface Call {
        int answer();
    }

    private static int looked = 0;
    private static int wrong = 0;
    private static int sentences = 0;
    private static String sentence = "";

    private Check() {
    }

    /** The sentence of the document that the answers from here on are about; it must stand there just so. */
    static void sentence(String words) {
        sentences++;
        sentence = words;
        due("the document has these words", true, Document.says(words));
    }

    static void due(String what, long want, long got) {
        due(what, Long.toString(want), Long.toString(got));
    }

    static void due(String what, boolean want, boolean got) {
        due(what, Boolean.toString(want), Boolean.toString(got));
    }

    static void due(String what, String want, String got) {
        looked++;
        if (!want.equals(got)) {
            wrong++;
            System.out.println(what + " answered " + got + ", due is " + want
                    + (sentence.isEmpty() ? "" : " by the words: " + sentence));
        }
    }

    static void noSuch(String what, Call call) {
        due(what, "NoSuchElementException", answerOf(call));
    }

    static void illegal(String what, Call call) {
        due(what, "IllegalArgumentException", answerOf(call));
    }

    /** The answer as a text, or the simple name of what was thrown. */
    static String answerOf(Call call) {
        try {
            return Integer.toString(call.answer());
        } catch (NoSuchElementException | IllegalArgumentException e) {
            return e.getClass().getSimpleName();
        } catch (RuntimeException e) {
            return "the machine's " + e.getClass().getName();
        }
    }

    /** Feeds a text, padded with blanks to rows of twenty bytes. */
    static void feed(ClockLodgers clock, String text) {
        feed(clock, text.getBytes(StandardCharsets.ISO_8859_1));
    }

    static void feed(ClockLodgers clock, byte[] bytes) {
        for (int i = 0; i < bytes.length; i += 20) {
            clock.feed(word(bytes, i), word(bytes, i + 4), word(bytes, i + 8), word(bytes, i + 12), word(bytes, i + 16));
        }
    }

    private static int word(byte[] bytes, int at) {
        int word = 0;
        for (int i = at; i < at + 4; i++) {
            word = word << 8 | (i < bytes.length ? bytes[i] & 255 : 32);
        }
        return word;
    }

    static int read(ClockLodgers clock, String text) {
        feed(clock, text);
        return clock.house(text.length());
    }

    /** A new clock with a text that must be without fault. */
    static ClockLodgers clock(String text) {
        ClockLodgers clock = new ClockLodgers();
        due("house of: " + text, 0, read(clock, text));
        return clock;
    }

    static void fault(String text, int kind, int place) {
        ClockLodgers clock = new ClockLodgers();
        due("house of: " + text, kind, read(clock, text));
        due("fault() of: " + text, place, clock.fault());
        due("count(10) of: " + text, kind == 0 ? 0 : 1, clock.count(10));
    }

    static void end() {
        System.out.println((sentences > 0 ? sentences + " sentences, " : "") + looked + " answers, " + wrong + " wrong");
        if (wrong > 0) {
            System.exit(1);
        }
    }
}
