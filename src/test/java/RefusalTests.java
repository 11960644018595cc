import java.util.ArrayList;
import java.util.List;
import java.util.function.Supplier;
import java.util.function.ToLongFunction;

/**
 * "what is refused changes nothing (but THE TAPE, as told)": each refused call is made on one of two
 * objects that are alike, and both are asked for all that can be asked behind it.
 */
public final class RefusalTests extends Checks {
    private static final int MOST_CALLS = 512;
    /** Where all() has the length of THE TAPE, and how many numbers at its end are of THE TAPE's text. */
    private static final int AT_TAPE = 4, OF_TEXT = 8;

    public static void main(String[] args) {
        refusedByFullTown();
        refusedByNewObject();
        refusedByFullTape();
        refusedText();
        askedChangesNothing();
        finish();
    }

    /** All that there may be of each, but SHEET 3 has nothing; some bytes wait on THE TAPE. */
    private static SunPointer everything() {
        SunPointer x = fullTown();
        feed(x, "7");
        x.text();
        x.keep(0);
        x.alter(0, 0, 2);
        x.cloud(4, true);
        x.keep(1);
        x.shift(0, NONE);
        each(0, 2, lane -> {
            x.sheet(lane, lane, 4);
            x.lay(lane, 0, lane + 1);
            x.lay(lane, 2, lane + 5);
            x.lay(lane, 3, 1);
        });
        x.read(0, 0, 2, 2);
        x.lay(1, 3, 9);
        each(1, 6, n -> x.see(n % 5, x.deed(n % 5, 2)));
        feed(x, "lover 1;paint 5;");
        return x;
    }

    private static SunPointer fullTape() {
        SunPointer x = new SunPointer();
        feed(x, "lover 1;paint 5;rota 4 0;deed 7 7;");
        while (x.feed(32) != FULL) {
            continue;
        }
        return x;
    }

    /** Asks for all that an object holds; it is not what it was behind that. */
    private static List<Long> all(SunPointer x) {
        List<Long> rows = new ArrayList<>();
        rows.add((long) x.fault());
        rows.add((long) x.torn());
        each(0, 5, what -> rows.add((long) x.count(what)));
        addTown(x, rows);
        each(0, 3, m -> rows.add((long) x.leans(m)));
        each(0, 3, m -> rows.add((long) x.kinds(m)));
        each(0, 3, k -> each(0, 2, lane -> {
            rows.add((long) x.read(k, lane, 0, 2));
            rows.add((long) x.torn());
        }));
        each(0, 11, hour -> rows.add((long) x.rota(hour)));
        each(0, 1, k -> {
            rows.add((long) x.back(k));
            addTown(x, rows);
        });
        rows.add((long) x.text());
        rows.add((long) x.fault());
        each(0, 5, what -> rows.add((long) x.rule(what)));
        return rows;
    }

    private static void addTown(SunPointer x, List<Long> rows) {
        each(0, 5, what -> rows.add((long) x.rule(what)));
        each(0, 3, m -> each(0, 1, what -> rows.add((long) x.man(m, what))));
        each(0, 11, hour -> rows.add((long) x.rota(hour)));
        each(0, 4, i -> each(0, 1, what -> rows.add((long) x.deed(i, what))));
    }

    /** Holds what a call answers, and all else against an object that did not get it. */
    private static void leaves(Supplier<SunPointer> made, String call, ToLongFunction<SunPointer> answer, long want) {
        SunPointer x = made.get();
        due(call, answer.applyAsLong(x), want);
        stays(made, call, x);
    }

    private static void stays(Supplier<SunPointer> made, String call, SunPointer x) {
        List<Long> without = all(made.get());
        List<Long> with = all(x);
        due("numbers asked for", without.size() < MOST_CALLS / 2);
        for (int i = 0; i < without.size(); i++) {
            due("number " + i + " of all, behind " + call, with.get(i), without.get(i));
        }
    }

    private static void full(String call, ToLongFunction<SunPointer> answer, long want) {
        test("refused by a full town: " + call, () -> leaves(RefusalTests::everything, call, answer, want));
    }

    private static void refusedByFullTown() {
        full("feed(-1)", x -> x.feed(-1), BAD);
        full("feed(128)", x -> x.feed(128), BAD);
        full("end(-1)", x -> x.end(-1), BAD);
        full("end(17)", x -> x.end(17), BAD);
        full("rule(6)", x -> x.rule(6), BAD);
        full("man(4, 0)", x -> x.man(4, 0), BAD);
        full("man(0, 4)", x -> x.man(0, 4), BAD);
        full("rota(12)", x -> x.rota(12), BAD);
        full("deed(5, 0)", x -> x.deed(5, 0), BAD);
        full("deed(0, 4)", x -> x.deed(0, 4), BAD);
        refusedChanges();
        refusedAsks();
        refusedSeen();
        refusedImagesAndSheets();
    }

    private static void refusedChanges() {
        full("alter(-1, 0, 0)", x -> x.alter(-1, 0, 0), BAD);
        full("alter(4, 0, 0)", x -> x.alter(4, 0, 0), BAD);
        full("alter(0, 2, 0)", x -> x.alter(0, 2, 0), BAD);
        full("alter(0, -1, 0)", x -> x.alter(0, -1, 0), BAD);
        full("alter(0, 0, 4)", x -> x.alter(0, 0, 4), BAD);
        full("alter(0, 0, -1)", x -> x.alter(0, 0, -1), BAD);
        full("alter(0, 1, 7)", x -> x.alter(0, 1, 7), BAD);
        full("alter(0, 1, -1)", x -> x.alter(0, 1, -1), BAD);
        full("move(-1, 0, 0)", x -> x.move(-1, 0, 0), BAD);
        full("move(5, 0, 0)", x -> x.move(5, 0, 0), BAD);
        full("move(0, 2, 1)", x -> x.move(0, 2, 1), BAD);
        full("move(0, -1, 1)", x -> x.move(0, -1, 1), BAD);
        full("move(0, 0, 48)", x -> x.move(0, 0, 48), BAD);
        full("move(0, 0, -1)", x -> x.move(0, 0, -1), BAD);
        full("move(0, 1, 0)", x -> x.move(0, 1, 0), BAD);
        full("move(0, 1, 10)", x -> x.move(0, 1, 10), BAD);
        full("shift(-1, 0)", x -> x.shift(-1, 0), BAD);
        full("shift(12, 0)", x -> x.shift(12, 0), BAD);
        full("shift(12, NONE)", x -> x.shift(12, NONE), BAD);
        full("shift(2, 4)", x -> x.shift(2, 4), BAD);
        full("shift(2, -1)", x -> x.shift(2, -1), BAD);
        full("cloud(-1, true)", x -> x.cloud(-1, true), BAD);
        full("cloud(12, true)", x -> x.cloud(12, true), BAD);
        full("cloud(33, false)", x -> x.cloud(33, false), BAD);
        full("paint(-1)", x -> x.paint(-1), BAD);
        full("paint(7)", x -> x.paint(7), BAD);
        full("want(5, 5)", x -> x.want(5, 5), FULL);
        full("want(48, 5)", x -> x.want(48, 5), BAD);
        full("want(5, 0)", x -> x.want(5, 0), BAD);
        full("drop(-1)", x -> x.drop(-1), BAD);
        full("drop(6)", x -> x.drop(6), BAD);
    }

    private static void refusedAsks() {
        full("shows(48)", x -> x.shows(48), BAD);
        full("lost(2)", x -> x.lost(2), BAD);
        full("worst(2)", x -> x.worst(2), BAD);
        full("done(4)", x -> x.done(4), BAD);
        full("lean(4, 0, 0)", x -> x.lean(4, 0, 0), BAD);
        full("lean(0, 5, 0)", x -> x.lean(0, 5, 0), BAD);
        full("lean(0, 0, 48)", x -> x.lean(0, 0, 48), BAD);
        full("mark(2)", x -> x.mark(2), BAD);
        full("give(2)", x -> x.give(2), BAD);
        full("swap(2)", x -> x.swap(2), BAD);
        full("sole(2)", x -> x.sole(2), BAD);
        full("mean(11, 0)", x -> x.mean(11, 0), BAD);
        full("mean(5, 2)", x -> x.mean(5, 2), BAD);
        full("luck(11, 0, 0)", x -> x.luck(11, 0, 0), BAD);
        full("luck(5, 5, 0)", x -> x.luck(5, 5, 0), BAD);
        full("luck(5, 0, 2)", x -> x.luck(5, 0, 2), BAD);
        full("drift(1, 0, 0)", x -> x.drift(1, 0, 0), BAD);
        full("drift(1, 41, 0)", x -> x.drift(1, 41, 0), BAD);
        full("drift(1, 1, 2)", x -> x.drift(1, 1, 2), BAD);
        full("count(6)", x -> x.count(6), BAD);
    }

    private static void refusedSeen() {
        full("see(0, 9)", x -> x.see(0, 9), FULL);
        full("see(0, NONE)", x -> x.see(0, NONE), FULL);
        full("see(5, 9)", x -> x.see(5, 9), BAD);
        full("see(0, 48)", x -> x.see(0, 48), BAD);
        full("forget(-1)", x -> x.forget(-1), BAD);
        full("forget(7)", x -> x.forget(7), BAD);
        full("leans(4)", x -> x.leans(4), BAD);
        full("kinds(4)", x -> x.kinds(4), BAD);
        full("ask(4, 0)", x -> x.ask(4, 0), BAD);
        full("ask(0, 2)", x -> x.ask(0, 2), BAD);
    }

    private static void refusedImagesAndSheets() {
        full("keep(-1)", x -> x.keep(-1), BAD);
        full("keep(2)", x -> x.keep(2), BAD);
        full("back(-1)", x -> x.back(-1), BAD);
        full("back(2)", x -> x.back(2), BAD);
        full("sheet(-1, 0, 4)", x -> x.sheet(-1, 0, 4), BAD);
        full("sheet(4, 0, 4)", x -> x.sheet(4, 0, 4), BAD);
        full("sheet(0, 3, 4)", x -> x.sheet(0, 3, 4), BAD);
        full("sheet(0, 0, 41)", x -> x.sheet(0, 0, 41), BAD);
        full("sheet(0, 1, -1)", x -> x.sheet(0, 1, -1), -14);
        full("sheet(3, 1, -1)", x -> x.sheet(3, 1, -1), -14);
        full("lay(4, 0, 1)", x -> x.lay(4, 0, 1), BAD);
        full("lay(3, 0, 1)", x -> x.lay(3, 0, 1), -11);
        full("lay(0, 4, 1)", x -> x.lay(0, 4, 1), -12);
        full("lay(0, -1, 1)", x -> x.lay(0, -1, 1), -12);
        full("read(4, 0, 0, 1)", x -> x.read(4, 0, 0, 1), BAD);
        full("read(0, 3, 0, 1)", x -> x.read(0, 3, 0, 1), BAD);
        full("read(0, 0, 0, 21)", x -> x.read(0, 0, 0, 21), BAD);
        full("read(0, 0, 0, -1)", x -> x.read(0, 0, 0, -1), BAD);
        full("read(1, 1, 0, 2), the second is BAD", x -> x.read(1, 1, 0, 2), -21);
    }

    private static void fresh(String call, ToLongFunction<SunPointer> answer, long want) {
        test("refused by a new object: " + call, () -> leaves(SunPointer::new, call, answer, want));
    }

    private static void refusedByNewObject() {
        fresh("end(1)", x -> x.end(1), BAD);
        fresh("man(0, 0)", x -> x.man(0, 0), BAD);
        fresh("deed(0, 0)", x -> x.deed(0, 0), BAD);
        fresh("alter(0, 0, 0)", x -> x.alter(0, 0, 0), BAD);
        fresh("move(0, 0, 0)", x -> x.move(0, 0, 0), BAD);
        fresh("shift(0, 0)", x -> x.shift(0, 0), BAD);
        fresh("drop(1)", x -> x.drop(1), BAD);
        fresh("want(0, 0)", x -> x.want(0, 0), BAD);
        fresh("lean(0, 0, 0)", x -> x.lean(0, 0, 0), BAD);
        fresh("luck(5, 0, 0)", x -> x.luck(5, 0, 0), BAD);
        fresh("see(0, 0)", x -> x.see(0, 0), BAD);
        fresh("forget(1)", x -> x.forget(1), BAD);
        fresh("leans(0)", x -> x.leans(0), BAD);
        fresh("kinds(0)", x -> x.kinds(0), BAD);
        fresh("ask(0, 0)", x -> x.ask(0, 0), BAD);
        fresh("drift(1, 1, 0)", x -> x.drift(1, 1, 0), STATE);
        fresh("back(0)", x -> x.back(0), STATE);
        fresh("back(1)", x -> x.back(1), STATE);
        fresh("lay(0, 0, 1)", x -> x.lay(0, 0, 1), -11);
        fresh("sheet(0, 0, -1)", x -> x.sheet(0, 0, -1), -14);
        fresh("give(0)", x -> x.give(0), NONE);
        fresh("swap(0)", x -> x.swap(0), NONE);
        fresh("sole(0)", x -> x.sole(0), NONE);
        fresh("worst(0)", x -> x.worst(0), NONE);
    }

    private static void tape(String call, ToLongFunction<SunPointer> answer, long want) {
        test("refused by a full TAPE: " + call, () -> leaves(RefusalTests::fullTape, call, answer, want));
    }

    private static void refusedByFullTape() {
        tape("feed(59)", x -> x.feed(59), FULL);
        tape("feed(-1)", x -> x.feed(-1), BAD);
        tape("end(161)", x -> x.end(161), BAD);
    }

    /** A text with a FAULT empties THE TAPE and is told by fault(), and nothing else is changed. */
    private static void refusedText() {
        String[] texts = {"?", "lover", "lover 1;paint 5;paint", "cloud 99;", "tired 1;".repeat(5), "rota 3;"};
        int[] faults = {1, 2, 4, 3, 5, 6};
        each(0, texts.length - 1, t -> test("(but THE TAPE, as told): " + texts[t], () -> {
            SunPointer x = everything();
            x.end(0);
            feed(x, texts[t]);
            due("text() has a FAULT", x.text() <= -10);
            List<Long> with = all(x);
            List<Long> without = all(everything());
            due("fault()", with.get(0), faults[t]);
            due("count(2)", with.get(AT_TAPE), 0);
            for (int i = 1; i < without.size() - OF_TEXT; i++) {
                if (i != AT_TAPE) {
                    due("number " + i + " of all", with.get(i), without.get(i));
                }
            }
        }));
    }

    private static void asked(String call, ToLongFunction<SunPointer> answer) {
        test("asked, and nothing is changed: " + call, () -> {
            SunPointer x = everything();
            long first = answer.applyAsLong(x);
            due(call + " again", answer.applyAsLong(x), first);
            stays(RefusalTests::everything, call, x);
        });
    }

    private static void askedChangesNothing() {
        asked("fault()", x -> x.fault());
        asked("rule(5)", x -> x.rule(5));
        asked("man(2, 3)", x -> x.man(2, 3));
        asked("rota(0)", x -> x.rota(0));
        asked("deed(1, 2)", x -> x.deed(1, 2));
        asked("shows(47)", x -> x.shows(47));
        asked("lost(0)", x -> x.lost(0));
        asked("worst(1)", x -> x.worst(1));
        asked("done(2)", x -> x.done(2));
        asked("lean(2, 1, 20)", x -> x.lean(2, 1, 20));
        asked("mark(0)", x -> x.mark(0));
        asked("give(0)", x -> x.give(0));
        asked("swap(0)", x -> x.swap(0));
        asked("sole(0)", x -> x.sole(0));
        asked("mean(3, 0)", x -> x.mean(3, 0));
        asked("luck(3, 1, 0)", x -> x.luck(3, 1, 0));
        asked("leans(2)", x -> x.leans(2));
        asked("kinds(2)", x -> x.kinds(2));
        asked("ask(2, 0)", x -> x.ask(2, 0));
        asked("drift(9, 40, 0)", x -> x.drift(9, 40, 0));
        asked("torn()", x -> x.torn());
        asked("count(5)", x -> x.count(5));
    }
}
