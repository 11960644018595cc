/** "Terms" of the document: for each sentence that names a bound, a test of its own. */
public final class BoundaryTermsTests extends Checks {
    public static void main(String[] args) {
        answers();
        fractions();
        hoursAndQuarters();
        menAndDeeds();
        stood();
        slip();
        reads();
        doneAndHarm();
        timeGoesBack();
        seen();
        sheets();
        faultsOfSheets();
        finish();
    }

    // ---- answers, the first that fits

    private static void answers() {
        test("BAD -1, STATE -2, FULL -3, NONE -4", () -> {
            due("BAD", SunPointer.BAD, -1);
            due("STATE", SunPointer.STATE, -2);
            due("FULL", SunPointer.FULL, -3);
            due("NONE", SunPointer.NONE, -4);
        });
        test("the first that fits: BAD ahead of FULL, feed", () -> {
            SunPointer x = new SunPointer();
            feed(x, " ".repeat(160));
            due("feed(32)", x.feed(32), FULL);
            due("feed(128)", x.feed(128), BAD);
            due("feed(-1)", x.feed(-1), BAD);
        });
        test("the first that fits: BAD ahead of FULL, want", () -> {
            SunPointer x = fullTown();
            due("want(0, 1)", x.want(0, 1), FULL);
            due("want(-1, 1)", x.want(-1, 1), BAD);
            due("want(48, 1)", x.want(48, 1), BAD);
            due("want(0, 0)", x.want(0, 0), BAD);
            due("want(0, 10)", x.want(0, 10), BAD);
        });
        test("the first that fits: BAD ahead of FULL, see", () -> {
            SunPointer x = fullTown();
            each(1, 6, n -> x.see(0, 1));
            due("see(0, 0)", x.see(0, 0), FULL);
            due("see(0, NONE)", x.see(0, NONE), FULL);
            due("see(-1, 0)", x.see(-1, 0), BAD);
            due("see(5, 0)", x.see(5, 0), BAD);
            due("see(0, 48)", x.see(0, 48), BAD);
            due("see(0, -1)", x.see(0, -1), BAD);
        });
        test("the first that fits: BAD ahead of STATE, drift", () -> {
            SunPointer x = new SunPointer();
            due("drift(1, 1, 0)", x.drift(1, 1, 0), STATE);
            due("drift(1, 40, 1)", x.drift(1, 40, 1), STATE);
            due("drift(1, 0, 0)", x.drift(1, 0, 0), BAD);
            due("drift(1, 41, 0)", x.drift(1, 41, 0), BAD);
            due("drift(1, 1, 2)", x.drift(1, 1, 2), BAD);
            due("drift(1, 1, -1)", x.drift(1, 1, -1), BAD);
        });
        test("the first that fits: BAD ahead of STATE, back", () -> {
            SunPointer x = new SunPointer();
            due("back(0)", x.back(0), STATE);
            due("back(1)", x.back(1), STATE);
            due("back(2)", x.back(2), BAD);
            due("back(-1)", x.back(-1), BAD);
        });
        badAheadOfNone();
        badAheadOfFaults();
    }

    private static void badAheadOfNone() {
        test("the first that fits: BAD ahead of NONE, where nothing is read and none is better", () -> {
            SunPointer x = new SunPointer();
            due("lost(1)", x.lost(1), NONE);
            due("worst(0)", x.worst(0), NONE);
            due("worst(1)", x.worst(1), NONE);
            each(0, 1, what -> due("give, swap, sole", x.give(what) + x.swap(what) + x.sole(what), 3 * NONE));
            for (int what : new int[] {-1, 2, LEAST, MOST}) {
                due("lost(" + what + ")", x.lost(what), BAD);
                due("worst(" + what + ")", x.worst(what), BAD);
                due("give(" + what + ")", x.give(what), BAD);
                due("swap(" + what + ")", x.swap(what), BAD);
                due("sole(" + what + ")", x.sole(what), BAD);
            }
        });
        test("the first that fits: BAD ahead of NONE, of one MAN", () -> {
            SunPointer x = told("upright 3;deed 47 1;");
            due("man(0, 3)", x.man(0, 3), NONE);
            due("man(0, 4)", x.man(0, 4), BAD);
            due("man(1, 3)", x.man(1, 3), BAD);
            due("lean(0, 0, 47)", x.lean(0, 0, 47), NONE);
            due("lean(1, 0, 47)", x.lean(1, 0, 47), BAD);
            due("lean(0, 1, 47)", x.lean(0, 1, 47), BAD);
            due("lean(0, 0, 48)", x.lean(0, 0, 48), BAD);
            due("ask(0, 0)", x.ask(0, 0), NONE);
            due("ask(0, 2)", x.ask(0, 2), BAD);
            due("ask(1, 0)", x.ask(1, 0), BAD);
            due("deed(0, 2)", x.deed(0, 2), NONE);
            due("deed(1, 2)", x.deed(1, 2), BAD);
            due("rota(0)", x.rota(0), NONE);
            due("rota(12)", x.rota(12), BAD);
            due("shows(0)", x.shows(0), NONE);
            due("shows(48)", x.shows(48), BAD);
            due("count(3)", x.count(3), NONE);
            due("count(6)", x.count(6), BAD);
        });
    }

    private static void badAheadOfFaults() {
        test("the first that fits: BAD ahead of SIZE, sheet", () -> {
            SunPointer x = new SunPointer();
            due("sheet(0, 0, -1)", x.sheet(0, 0, -1), -14);
            due("sheet(4, 0, -1)", x.sheet(4, 0, -1), BAD);
            due("sheet(-1, 0, -1)", x.sheet(-1, 0, -1), BAD);
            due("sheet(0, 3, -1)", x.sheet(0, 3, -1), BAD);
            due("sheet(0, -1, -1)", x.sheet(0, -1, -1), BAD);
        });
        test("the first that fits: BAD ahead of NULL, NULL ahead of INDEX, lay", () -> {
            SunPointer x = new SunPointer();
            due("lay(0, -1, 0)", x.lay(0, -1, 0), -11);
            due("lay(3, 40, 0)", x.lay(3, 40, 0), -11);
            due("lay(4, -1, 0)", x.lay(4, -1, 0), BAD);
            due("lay(-1, -1, 0)", x.lay(-1, -1, 0), BAD);
        });
        test("the first that fits: BAD ahead of NULL, read", () -> {
            SunPointer x = new SunPointer();
            due("read(4, 0, -1, 1)", x.read(4, 0, -1, 1), BAD);
            due("read(0, 3, -1, 1)", x.read(0, 3, -1, 1), BAD);
            due("read(0, 0, -1, 21)", x.read(0, 0, -1, 21), BAD);
            due("torn()", x.torn(), 0);
            due("read(0, 0, -1, 1)", x.read(0, 0, -1, 1), 0);
            due("torn()", x.torn(), 1);
        });
    }

    // ---- fractions

    private static long divisor(long a, long b) {
        return b == 0 ? a : divisor(b, a % b);
    }

    private static void fractions() {
        test("Fractions are in lowest terms, the denominator above 0: mean", () -> each(0, 10, v -> {
            SunPointer x = fullTown();
            long below = x.mean(v, 1);
            due("denominator of mean(" + v + ")", below > 0);
            due("divisor of mean(" + v + ")", divisor(x.mean(v, 0), below), 1);
        }));
        test("Fractions are in lowest terms, the denominator above 0: luck", () -> each(0, 10, v -> each(0, 4, i -> {
            SunPointer x = fullTown();
            long below = x.luck(v, i, 1);
            due("denominator of luck(" + v + ", " + i + ")", below > 0);
            due("divisor of luck(" + v + ", " + i + ")", divisor(x.luck(v, i, 0), below), 1);
        })));
        test("0 is 0 by 1", () -> {
            SunPointer x = told("upright 3;rota 0;deed 0 1;deed 47 9;");
            due("luck(10, 0, 0)", x.luck(10, 0, 0), 0);
            due("luck(10, 0, 1)", x.luck(10, 0, 1), 1);
            due("luck(5, 1, 0) of one that is never done", x.luck(5, 1, 0), 0);
            due("luck(5, 1, 1) of one that is never done", x.luck(5, 1, 1), 1);
            x.drop(1);
            due("mean(0, 0)", x.mean(0, 0), 0);
            due("mean(0, 1)", x.mean(0, 1), 1);
            x.drop(0);
            due("mean(7, 0) without DEEDS", x.mean(7, 0), 0);
            due("mean(7, 1) without DEEDS", x.mean(7, 1), 1);
        });
        test("a whole number is by 1", () -> {
            SunPointer x = told("upright 3;rota 0;deed 0 5;");
            due("luck(0, 0, 0)", x.luck(0, 0, 0), 1);
            due("luck(0, 0, 1)", x.luck(0, 0, 1), 1);
            due("mean(5, 0)", x.mean(5, 0), 120);
            due("mean(5, 1)", x.mean(5, 1), 1);
        });
        test("twelve HOURS by odds: the greatest denominator", () -> {
            SunPointer x = told("upright 3;" + EVERY_HOUR + "deed 0 1;");
            due("luck(1, 0, 0)", x.luck(1, 0, 0), 999999999999L);
            due("luck(1, 0, 1)", x.luck(1, 0, 1), 1000000000000L);
            due("luck(9, 0, 0)", x.luck(9, 0, 0), 717570463519L);
            due("luck(9, 0, 1)", x.luck(9, 0, 1), 1000000000000L);
            due("luck(5, 0, 0)", x.luck(5, 0, 0), 4095);
            due("luck(5, 0, 1)", x.luck(5, 0, 1), 4096);
        });
    }

    // ---- HOURS, QUARTERS, MEN, DEEDS

    private static void hoursAndQuarters() {
        test("HOURS 0 to 11", () -> {
            bounds("rota", 0, 11, (x, hour) -> x.rota(hour));
            bounds("shift", 0, 11, (x, hour) -> x.shift(hour, 0));
            bounds("cloud", 0, 11, (x, hour) -> x.cloud(hour, true));
        });
        test("QUARTERS 0 to 47", () -> {
            bounds("shows", 0, 47, (x, quarter) -> x.shows(quarter));
            bounds("move", 0, 47, (x, quarter) -> x.move(0, 0, quarter));
            bounds("see", 0, 47, (x, quarter) -> x.see(0, quarter));
            bounds("lean", 0, 47, (x, quarter) -> x.lean(0, 0, quarter));
        });
        test("four QUARTERS to an HOUR", () -> each(0, 11, hour -> {
            SunPointer x = told("upright 3;");
            x.shift(hour, 0);
            each(0, 47, q -> due("shows(" + q + ") of HOUR " + hour, x.shows(q), q / 4 == hour ? q : NONE));
            due("count(5)", x.count(5), 4);
        }));
        test("THE ROTA: nobody at first", () -> {
            SunPointer x = told("upright 3;");
            each(0, 11, hour -> due("rota(" + hour + ")", x.rota(hour), NONE));
            due("rule(4)", x.rule(4), 0);
        });
        test("CLOUDS: none at first", () -> {
            SunPointer x = told("upright 3;" + EVERY_HOUR);
            due("rule(3)", x.rule(3), 0);
            each(0, 11, hour -> due("cloud(" + hour + ", false)", x.cloud(hour, false), 0));
        });
        test("PAINT (0 to 6; 3 at first)", () -> {
            due("rule(2)", new SunPointer().rule(2), 3);
            due("rule(2) behind a text", told("upright 3;").rule(2), 3);
            bounds("paint", 0, 6, (x, v) -> x.paint(v));
            each(0, 6, v -> due("paint in a text", told("paint " + v + ";").rule(2), v));
        });
    }

    private static void menAndDeeds() {
        test("MEN (4 at most)", () -> {
            SunPointer x = told("upright 0;stooped 1;tired 2;lover 6;");
            due("rule(0)", x.rule(0), 4);
            each(0, 3, m -> due("KIND of MAN " + m, x.man(m, 0), m));
            due("man(4, 0)", x.man(4, 0), BAD);
            due("shift(0, 3)", x.shift(0, 3), NONE);
            due("shift(0, 4)", x.shift(0, 4), BAD);
            feed(x, "lover 1;".repeat(5));
            due("a text of 5 MEN", x.text(), -10 - 32);
            due("rule(0) behind it", x.rule(0), 4);
        });
        test("a KIND (0 to 3)", () -> bounds("alter KIND", 0, 3, (x, v) -> x.alter(0, 0, v)));
        test("a LEAN (0 to 6)", () -> {
            bounds("alter LEAN", 0, 6, (x, v) -> x.alter(0, 1, v));
            each(0, 6, v -> due("LEAN in a text", told("lover " + v + ";").man(0, 1), v));
        });
        test("DEEDS (5 at most)", () -> {
            SunPointer x = new SunPointer();
            each(1, 5, n -> due("want", x.want(n, n), n));
            due("want for the 6th time", x.want(6, 6), FULL);
            due("rule(1)", x.rule(1), 5);
            due("deed(4, 0)", x.deed(4, 0), 5);
            due("deed(5, 0)", x.deed(5, 0), BAD);
            due("deeds of a text", told("deed 1 1;".repeat(5)).rule(1), 5);
        });
        test("a WORTH (1 to 9)", () -> {
            bounds("move WORTH", 1, 9, (x, v) -> x.move(0, 1, v));
            each(1, 9, v -> due("want", new SunPointer().want(0, v), 1));
            due("want(0, 0)", new SunPointer().want(0, 0), BAD);
            due("want(0, 10)", new SunPointer().want(0, 10), BAD);
            each(1, 9, v -> due("WORTH in a text", told("deed 0 " + v + ";").deed(0, 1), v));
        });
    }

    // ---- STOOD and SLIP

    /** A tired MAN with LEAN 6 under PAINT 3: 3 ahead, less 1, less 1 for each 8 that he STOOD. */
    private static SunPointer tired(String rota) {
        return told("tired 6;tired 6;rota " + rota + ";");
    }

    private static void stood() {
        test("STOOD: 0 in the first one", () -> {
            SunPointer x = tired("4 4 0");
            due("shows(8)", x.shows(8), 10);
            due("man(0, 3)", x.man(0, 3), 3);
            due("man(1, 3) of one who does not stand", x.man(1, 3), NONE);
        });
        test("STOOD: by HOURS, one behind another", () -> {
            SunPointer x = tired("0 0 0 0 0");
            due("shows(7), he STOOD 7", x.shows(7), 9);
            due("shows(8), he STOOD 8", x.shows(8), 9);
            due("shows(15), he STOOD 15", x.shows(15), 16);
            due("shows(16), he STOOD 16", x.shows(16), 16);
            due("man(0, 3)", x.man(0, 3), 19);
        });
        test("STOOD: all day long", () -> {
            SunPointer x = tired("0 0 0 0 0 0 0 0 0 0 0 0");
            due("shows(39), he STOOD 39", x.shows(39), 37);
            due("shows(40), he STOOD 40", x.shows(40), 37);
            due("shows(47), he STOOD 47", x.shows(47), 44);
            due("man(0, 3)", x.man(0, 3), 47);
        });
        test("STOOD: without a break, nobody", () -> {
            SunPointer x = tired("0 0 4 0 0 0");
            due("shows(12)", x.shows(12), 14);
            due("shows(19)", x.shows(19), 21);
            due("shows(20)", x.shows(20), 21);
            due("man(0, 3) is the most", x.man(0, 3), 11);
        });
        test("STOOD: without a break, another MAN of his KIND", () -> {
            SunPointer x = tired("0 0 1 0");
            due("shows(8)", x.shows(8), 10);
            due("shows(12)", x.shows(12), 14);
            due("man(0, 3)", x.man(0, 3), 7);
            due("man(1, 3)", x.man(1, 3), 3);
        });
        test("STOOD: CLOUDS are no break", () -> {
            SunPointer x = tired("0 0 0");
            x.cloud(0, true);
            x.cloud(1, true);
            due("shows(8)", x.shows(8), 9);
            due("man(0, 3)", x.man(0, 3), 11);
        });
        test("STOOD: HOUR 0 does not come behind HOUR 11", () -> {
            SunPointer x = tired("0 4 4 4 4 4 4 4 4 4 0 0");
            due("shows(0)", x.shows(0), 2);
            due("man(0, 3)", x.man(0, 3), 7);
        });
    }

    private static void slip() {
        test("SLIP: upright 0", () -> {
            SunPointer x = told("upright 3;" + EVERY_HOUR);
            each(0, 47, q -> due("shows(" + q + ")", x.shows(q), q));
        });
        test("SLIP: stooped 1 less", () -> {
            SunPointer x = told("stooped 3;" + EVERY_HOUR);
            each(0, 47, q -> due("shows(" + q + ")", x.shows(q), Math.max(0, q - 1)));
        });
        test("SLIP: tired 1 less than stooped for each 8 QUARTERS that he STOOD", () -> {
            SunPointer x = told("tired 3;" + EVERY_HOUR);
            each(0, 47, q -> due("shows(" + q + ")", x.shows(q), Math.max(0, q - 1 - q / 8)));
        });
        test("SLIP: lover 1 more in even HOURS, 1 less in odd ones", () -> {
            SunPointer x = told("lover 3;" + EVERY_HOUR);
            each(0, 47, q -> due("shows(" + q + ")", x.shows(q), q / 4 % 2 == 0 ? q + 1 : q - 1));
        });
    }

    // ---- what THE SQUARE READS

    private static void reads() {
        test("THE SQUARE READS: 0 at least", () -> {
            SunPointer x = told("upright 0;paint 0;" + EVERY_HOUR);
            each(0, 5, q -> due("shows(" + q + ")", x.shows(q), 0));
            due("shows(6)", x.shows(6), 0);
            due("shows(7)", x.shows(7), 1);
            due("shows(47)", x.shows(47), 41);
        });
        test("THE SQUARE READS: 0 at least, by the least SLIP", () -> {
            SunPointer x = told("tired 0;paint 0;" + EVERY_HOUR);
            due("shows(0)", x.shows(0), 0);
            due("shows(7), 7 less", x.shows(7), 0);
            due("shows(8), 8 less", x.shows(8), 0);
            due("shows(9), 8 less", x.shows(9), 1);
            due("shows(47), 12 less", x.shows(47), 35);
        });
        test("THE SQUARE READS: 47 at most", () -> {
            SunPointer x = told("upright 6;paint 6;" + EVERY_HOUR);
            due("shows(0)", x.shows(0), 6);
            due("shows(40)", x.shows(40), 46);
            each(41, 47, q -> due("shows(" + q + ")", x.shows(q), 47));
        });
        test("THE SQUARE READS: 47 at most, by the most SLIP", () -> {
            SunPointer x = told("lover 6;paint 6;" + EVERY_HOUR);
            due("shows(0), 7 more", x.shows(0), 7);
            due("shows(39), 5 more", x.shows(39), 44);
            each(40, 47, q -> due("shows(" + q + ")", x.shows(q), 47));
        });
        test("THE SQUARE READS: else nothing, where nobody stands", () -> {
            SunPointer x = told("upright 3;rota 0 4 0;");
            due("shows(3)", x.shows(3), 3);
            each(4, 7, q -> due("shows(" + q + ")", x.shows(q), NONE));
            due("shows(8)", x.shows(8), 8);
            due("shows(12)", x.shows(12), NONE);
        });
        test("THE SQUARE READS: else nothing, under CLOUDS", () -> {
            SunPointer x = told("upright 3;cloud 0;cloud 11;" + EVERY_HOUR);
            each(0, 3, q -> due("shows(" + q + ")", x.shows(q), NONE));
            each(4, 43, q -> due("shows(" + q + ")", x.shows(q), q));
            each(44, 47, q -> due("shows(" + q + ")", x.shows(q), NONE));
        });
    }

    // ---- DONE, HARM, TIME GOES BACK

    private static void doneAndHarm() {
        test("DONE in the first QUARTER in which THE SQUARE READS its DUE or more", () -> {
            SunPointer x = told("upright 5;stooped 1;rota 4 0 1 1;deed 9 1;deed 10 1;deed 5 1;deed 0 1;");
            // HOUR 1 reads 6 to 9, HOURS 2 and 3 read 5 to 12.
            due("DUE 9, just read", x.deed(0, 2), 7);
            due("DUE 10, behind time that goes back", x.deed(1, 2), 13);
            due("DUE 5, more at once", x.deed(2, 2), 4);
            due("DUE 0", x.deed(3, 2), 4);
            x.move(0, 0, 12);
            due("DUE 12, in the last QUARTER", x.deed(0, 2), 15);
            x.move(0, 0, 13);
            due("DUE 13, never", x.deed(0, 2), NONE);
        });
        test("DONE by what is held at 0 and at 47", () -> {
            SunPointer x = told("upright 0;paint 0;" + EVERY_HOUR + "deed 0 1;deed 1 1;deed 41 1;deed 42 1;");
            due("DUE 0", x.deed(0, 2), 0);
            due("DUE 1", x.deed(1, 2), 7);
            due("DUE 41", x.deed(2, 2), 47);
            due("DUE 42", x.deed(3, 2), NONE);
            SunPointer y = told("upright 6;paint 6;" + EVERY_HOUR + "deed 47 1;deed 46 1;deed 6 1;deed 7 1;");
            due("DUE 47", y.deed(0, 2), 41);
            due("DUE 46", y.deed(1, 2), 40);
            due("DUE 6", y.deed(2, 2), 0);
            due("DUE 7", y.deed(3, 2), 1);
        });
        test("HARM: WORTH times by how many QUARTERS that is too early, too late", () -> {
            SunPointer x = told("upright 3;rota 4 0 0 0;deed 8 9;");
            due("in time", x.deed(0, 3), 0);
            x.paint(4);
            due("1 too early", x.deed(0, 3), 9);
            x.paint(2);
            due("1 too late", x.deed(0, 3), 9);
            x.move(0, 1, 1);
            due("1 too late, of WORTH 1", x.deed(0, 3), 1);
            SunPointer y = told("upright 3;rota 4 4 4 4 4 4 4 4 4 4 4 0;deed 0 9;");
            due("44 too late", y.deed(0, 3), 9 * 44);
        });
        test("HARM: times 48, if it is never DONE", () -> {
            SunPointer x = told("deed 0 1;deed 47 9;");
            due("deed(0, 3)", x.deed(0, 3), 48);
            due("deed(1, 3)", x.deed(1, 3), 432);
            due("rule(5)", x.rule(5), 480);
        });
        test("HARM of all at its most", () -> {
            SunPointer x = told("deed 0 9;".repeat(5));
            due("rule(5)", x.rule(5), 2160);
            due("mark(1)", x.mark(1), 2160);
            due("mean(0, 0)", x.mean(0, 0), 2160);
        });
    }

    private static void timeGoesBack() {
        test("TIME GOES BACK: less than it READ latest before", () -> {
            SunPointer x = told("upright 6;upright 2;rota 0 1;");
            // 3 is READ as 6, 4 as 3.
            due("lost(0)", x.lost(0), 1);
            due("lost(1)", x.lost(1), 4);
        });
        test("TIME GOES BACK: the same is not less", () -> {
            SunPointer x = told("upright 6;upright 5;rota 0 1;");
            due("shows(3)", x.shows(3), 6);
            due("shows(4)", x.shows(4), 6);
            due("lost(0)", x.lost(0), 0);
            due("lost(1)", x.lost(1), NONE);
            x.alter(1, 1, 4);
            due("lost(0), 1 less", x.lost(0), 1);
        });
        test("TIME GOES BACK: latest before, over QUARTERS in which nothing is READ", () -> {
            SunPointer x = told("upright 6;upright 0;paint 5;rota 0 4 1;");
            // 3 is READ as 8, 8 as 7.
            due("lost(0)", x.lost(0), 1);
            due("lost(1)", x.lost(1), 8);
            x.cloud(0, true);
            due("lost(0), nothing READ before", x.lost(0), 0);
            due("lost(1), nothing READ before", x.lost(1), NONE);
        });
        test("TIME GOES BACK: not where it is held at 0 or at 47", () -> {
            due("held at 0", told("tired 0;paint 0;rota 0 0;").lost(0), 0);
            due("held at 47", told("lover 6;paint 6;rota 4 4 4 4 4 4 4 4 4 4 0 0;").lost(0), 0);
        });
        test("TIME GOES BACK: less than latest, not less than ever", () -> {
            SunPointer x = told("upright 6;upright 0;rota 0 1 1;");
            // 3 is READ as 6, 4 as 1, 5 as 2: back once alone.
            due("lost(0)", x.lost(0), 1);
        });
    }

    // ---- SEEN

    private static void seen() {
        test("SEEN (6)", () -> {
            SunPointer x = fullTown();
            each(1, 6, n -> due("see", x.see(0, n), n));
            due("see for the 7th time", x.see(0, 7), FULL);
            due("count(0)", x.count(0), 6);
            due("forget(5)", x.forget(5), 6);
            due("see", x.see(0, 7), 6);
            due("see", x.see(0, 7), FULL);
        });
        test("SEEN: the 6th counts as the first does", () -> {
            SunPointer x = told("upright 3;rota 0 0 0;deed 5 1;deed 6 1;");
            each(1, 5, n -> x.see(0, 5));
            due("leans(0)", x.leans(0), 1 << 3);
            x.see(1, 7);
            due("leans(0)", x.leans(0), 0);
            x.forget(5);
            due("leans(0)", x.leans(0), 1 << 3);
        });
        test("SEEN: or never", () -> {
            SunPointer x = told("upright 3;rota 0 0;deed 7 1;");
            x.see(0, NONE);
            due("leans(0)", x.leans(0), 1 | 2 | 4);
            due("kinds(0)", x.kinds(0), 2 | 4 | 8);
        });
        test("SEEN of a DEED that there is not any more: it is not so", () -> {
            SunPointer x = told("upright 3;rota 0 0;deed 1 1;deed 47 1;");
            x.see(1, NONE);
            due("leans(0)", x.leans(0), 127);
            x.drop(1);
            due("count(0)", x.count(0), 1);
            due("leans(0)", x.leans(0), 0);
            due("kinds(0)", x.kinds(0), 0);
            due("ask(0, 0)", x.ask(0, 0), NONE);
            x.forget(0);
            due("leans(0)", x.leans(0), 127);
        });
        test("SEEN of a DEED that an IMAGE has not: it is not so", () -> {
            SunPointer x = told("upright 3;rota 0 0;deed 1 1;");
            x.keep(0);
            x.want(47, 1);
            x.see(1, NONE);
            due("leans(0)", x.leans(0), 127);
            x.back(0);
            due("leans(0)", x.leans(0), 0);
        });
    }

    // ---- SHEETS

    private static void sheets() {
        test("SHEETS 0 to 3", () -> {
            bounds("sheet", 0, 3, (x, k) -> x.sheet(k, 0, 1));
            bounds("lay", 0, 3, (x, k) -> x.lay(k, 0, 0));
            bounds("read", 0, 3, (x, k) -> x.read(k, 0, 0, 1));
        });
        test("SHEETS: each is a row of its own", () -> {
            SunPointer x = told("upright 3;");
            each(0, 3, k -> x.sheet(k, 2, 2));
            each(0, 3, k -> x.lay(k, 0, k + 5));
            each(0, 3, k -> {
                due("read(" + k + ")", x.read(k, 2, 0, 1), 1);
                due("rota(" + (k + 5) + ")", x.rota(k + 5), 0);
                due("rule(4)", x.rule(4), (2 << k) - 1 << 5);
            });
        });
        test("SHEETS: lanes 0 to 2", () -> {
            bounds("sheet", 0, 2, (x, lane) -> x.sheet(0, lane, 1));
            bounds("read", 0, 2, (x, lane) -> x.read(0, lane, 0, 1));
        });
        test("SHEETS: 0 to 40 CELLS", () -> {
            each(0, 40, n -> {
                SunPointer x = new SunPointer();
                due("sheet(0, 1, " + n + ")", x.sheet(0, 1, n), 1);
                due("count(3)", x.count(3), n);
                due("lay(0, n - 1, 0)", x.lay(0, n - 1, 0), n == 0 ? -12 : 1);
                due("lay(0, n, 0)", x.lay(0, n, 0), -12);
            });
            SunPointer x = new SunPointer();
            due("sheet(0, 1, 41)", x.sheet(0, 1, 41), BAD);
            due("sheet(0, 1, MOST)", x.sheet(0, 1, MOST), BAD);
            due("sheet(0, 1, -1)", x.sheet(0, 1, -1), -14);
            due("sheet(0, 1, LEAST)", x.sheet(0, 1, LEAST), -14);
            due("count(3)", x.count(3), NONE);
        });
        test("SHEETS: or nothing (at first)", () -> {
            SunPointer x = new SunPointer();
            due("count(3)", x.count(3), NONE);
            each(0, 3, k -> due("lay(" + k + ", 0, 0)", x.lay(k, 0, 0), -11));
            each(0, 3, k -> {
                due("read(" + k + ", 0, 0, 1)", x.read(k, 0, 0, 1), 0);
                due("torn()", x.torn(), 1);
            });
        });
        lowestBits();
    }

    /** What a CELL of a lane holds, as the HOUR that read() makes of it; BAD if it is none. */
    private static int hourLaid(int lane, int v) {
        SunPointer x = told("upright 3;");
        x.sheet(0, lane, 2);
        due("lay(0, 0, " + v + ")", x.lay(0, 0, v), 1);
        int came = x.read(0, lane, 0, 1);
        return came == 1 ? Integer.numberOfTrailingZeros(x.rule(4)) : came == -20 ? BAD : -99;
    }

    private static void lowestBits() {
        test("BYTES (lane 0) keep the lowest 8 bits", () -> {
            due("11", hourLaid(0, 11), 11);
            due("12", hourLaid(0, 12), BAD);
            due("256", hourLaid(0, 256), 0);
            due("256 + 11", hourLaid(0, 267), 11);
            due("-256 + 3", hourLaid(0, -253), 3);
            due("255", hourLaid(0, 255), BAD);
            due("128", hourLaid(0, 128), BAD);
            due("LEAST", hourLaid(0, LEAST), 0);
            due("MOST", hourLaid(0, MOST), BAD);
        });
        test("SHORTS (lane 1) keep the lowest 16 bits", () -> {
            due("11", hourLaid(1, 11), 11);
            due("256", hourLaid(1, 256), BAD);
            due("65536", hourLaid(1, 65536), 0);
            due("65536 + 11", hourLaid(1, 65547), 11);
            due("-65536 + 3", hourLaid(1, -65533), 3);
            due("32768", hourLaid(1, 32768), BAD);
            due("LEAST", hourLaid(1, LEAST), 0);
        });
        test("INTS (lane 2) keep all", () -> {
            due("11", hourLaid(2, 11), 11);
            due("256", hourLaid(2, 256), BAD);
            due("65536", hourLaid(2, 65536), BAD);
            due("LEAST", hourLaid(2, LEAST), BAD);
            due("MOST", hourLaid(2, MOST), BAD);
        });
        test("CELLS have a sign: NONE (-4) is read of each lane", () -> each(0, 2, lane -> {
            SunPointer x = told("upright 3;rota 0;");
            x.sheet(0, lane, 2);
            x.lay(0, 1, lane == 0 ? 252 : lane == 1 ? 65532 : NONE);
            due("read", x.read(0, lane, 0, 1), 1);
            due("rota(0)", x.rota(0), NONE);
            x.lay(0, 1, lane == 0 ? 255 : lane == 1 ? 65535 : -1);
            due("read of -1", x.read(0, lane, 0, 1), -20);
        }));
    }

    private static void tornBy(SunPointer x, int k, int lane, int f, int fault) {
        String call = "read(" + k + ", " + lane + ", " + f + ", 1)";
        due(call, x.read(k, lane, f, 1), 0);
        due("torn() behind " + call, x.torn(), fault);
    }

    private static void faultsOfSheets() {
        test("FAULT 1 NULL (nothing), ahead of CAST and INDEX", () -> {
            SunPointer x = told("upright 3;");
            each(0, 2, lane -> tornBy(x, 1, lane, 0, 1));
            tornBy(x, 1, 0, -1, 1);
            tornBy(x, 1, 0, 40, 1);
            due("lay(1, 0, 0)", x.lay(1, 0, 0), -11);
        });
        test("FAULT 2 INDEX", () -> {
            SunPointer x = told("upright 3;");
            x.sheet(1, 1, 4);
            each(-2, -1, f -> tornBy(x, 1, 1, f, 2));
            each(3, 5, f -> tornBy(x, 1, 1, f, 2));
            tornBy(x, 1, 1, MOST, 2);
            tornBy(x, 1, 1, LEAST, 2);
            due("lay(1, -1, 0)", x.lay(1, -1, 0), -12);
            due("lay(1, 4, 0)", x.lay(1, 4, 0), -12);
            due("lay(1, MOST, 0)", x.lay(1, MOST, 0), -12);
            due("lay(1, LEAST, 0)", x.lay(1, LEAST, 0), -12);
            due("read(1, 1, 2, 1)", x.read(1, 1, 2, 1), 1);
        });
        test("FAULT 2 INDEX: a SHEET of 0 CELLS is not nothing", () -> {
            SunPointer x = told("upright 3;");
            x.sheet(1, 1, 0);
            tornBy(x, 1, 1, 0, 2);
            due("lay(1, 0, 0)", x.lay(1, 0, 0), -12);
        });
        test("FAULT 3 CAST (another lane), ahead of INDEX", () -> each(0, 2, lane -> {
            SunPointer x = told("upright 3;");
            x.sheet(1, lane, 4);
            each(0, 2, other -> {
                if (other != lane) {
                    tornBy(x, 1, other, 0, 3);
                    tornBy(x, 1, other, 99, 3);
                    tornBy(x, 1, other, -1, 3);
                }
            });
            due("read of its own lane", x.read(1, lane, 0, 1), 1);
        }));
        test("FAULT 3 CAST: a SHEET of 0 CELLS has a lane", () -> {
            SunPointer x = told("upright 3;");
            x.sheet(1, 1, 0);
            tornBy(x, 1, 0, 0, 3);
        });
        test("FAULT 4 SIZE (below 0)", () -> {
            SunPointer x = new SunPointer();
            due("sheet(1, 1, -1)", x.sheet(1, 1, -1), -14);
            due("lay(1, 0, 0), still nothing", x.lay(1, 0, 0), -11);
            x.sheet(1, 1, 3);
            due("sheet(1, 0, -1)", x.sheet(1, 0, -1), -14);
            due("lay(1, 2, 0), still the row that it was", x.lay(1, 2, 0), 1);
        });
    }
}
