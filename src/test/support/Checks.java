import java.util.function.IntConsumer;
import java.util.function.ToLongBiFunction;

/** What tests by sentence share: a test for each sentence, and towns that are told by a text. */
abstract class Checks {
    static final int BAD = -1, STATE = -2, FULL = -3, NONE = -4;
    static final int LEAST = Integer.MIN_VALUE, MOST = Integer.MAX_VALUE;
    /** As much as there may be of MEN, HOURS and DEEDS. */
    static final String FULL_TOWN = "upright 3;stooped 5;tired 4;lover 3;rota 0 0 1 2 2 2 2 3 3 3 0 0;"
            + "cloud 1;paint 2;deed 9 4;deed 20 2;deed 36 9;deed 0 1;deed 47 3;";
    static final String EVERY_HOUR = "rota 0 0 0 0 0 0 0 0 0 0 0 0;";

    private static int tests = 0;
    private static int checks = 0;
    private static int wrong = 0;
    private static String sentence = "";

    /** A test of its own for a sentence of the document; one that checks nothing is wrong. */
    static void test(String words, Runnable body) {
        sentence = words;
        tests++;
        int before = checks;
        try {
            body.run();
        } catch (RuntimeException thrown) {
            fail("threw " + thrown);
        }
        if (checks == before) {
            fail("nothing is checked");
        }
    }

    static void due(String call, long got, long want) {
        checks++;
        if (got != want) {
            fail(call + " answered " + got + ", due is " + want);
        }
    }

    static void due(String call, boolean holds) {
        due(call, holds ? 1 : 0, 1);
    }

    private static void fail(String what) {
        wrong++;
        if (wrong <= 60) {
            System.out.println("[" + sentence + "] " + what);
        }
    }

    /** Ends the program with exit code 1 if an answer was wrong. */
    static void finish() {
        System.out.println(tests + " sentences, " + checks + " checks, " + wrong + " wrong");
        if (wrong != 0) {
            System.exit(1);
        }
    }

    static void feed(SunPointer x, String text) {
        for (int i = 0; i < text.length(); i++) {
            x.feed(text.charAt(i));
        }
    }

    static SunPointer told(String text) {
        SunPointer x = new SunPointer();
        feed(x, text);
        int lines = x.text();
        if (lines < 0) {
            fail("the text " + text + " was not taken: " + lines + ", FAULT " + x.fault());
        }
        return x;
    }

    static SunPointer fullTown() {
        return told(FULL_TOWN);
    }

    /**
     * An argument of a call on a full town: BAD at the first numbers that are not taken, to both
     * sides and far away; not BAD at each one that is.
     */
    static void bounds(String call, int least, int most, ToLongBiFunction<SunPointer, Integer> answer) {
        for (int v = least; v <= most; v++) {
            due(call + " of " + v + " is taken", answer.applyAsLong(fullTown(), v) != BAD);
        }
        for (int v : new int[] {least - 1, most + 1, LEAST, MOST}) {
            due(call + " of " + v, answer.applyAsLong(fullTown(), v), BAD);
        }
    }

    static void each(int least, int most, IntConsumer body) {
        for (int v = least; v <= most; v++) {
            body.accept(v);
        }
    }
}
