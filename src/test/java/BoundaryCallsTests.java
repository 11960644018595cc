import java.math.BigInteger;

/** Promises 1 to 33: for each sentence that names a bound, a test of its own. */
public final class BoundaryCallsTests extends Checks {
    public static void main(String[] args) {
        newObject();
        feedAndEnd();
        rule();
        man();
        rotaAndDeed();
        alterAndMove();
        shift();
        cloudAndPaint();
        wantAndDrop();
        showsAndLost();
        worst();
        done();
        lean();
        mark();
        give();
        swap();
        sole();
        mean();
        luck();
        seeAndForget();
        leansAndKinds();
        ask();
        drift();
        changed();
        manyCalls();
        finish();
    }

    /** So many MEN and DEEDS, nobody standing. */
    private static SunPointer town(int men, int deeds) {
        return told("upright 3;".repeat(men) + "deed 5 2;".repeat(deeds));
    }

    private static void newObject() {
        test("1: No MEN", () -> {
            SunPointer x = new SunPointer();
            due("rule(0)", x.rule(0), 0);
            due("man(0, 0)", x.man(0, 0), BAD);
            due("shift(0, 0)", x.shift(0, 0), BAD);
            due("alter(0, 0, 0)", x.alter(0, 0, 0), BAD);
            due("leans(0)", x.leans(0), BAD);
            due("kinds(0)", x.kinds(0), BAD);
            due("ask(0, 0)", x.ask(0, 0), BAD);
            due("lean(0, 0, 0)", x.lean(0, 0, 0), BAD);
        });
        test("1: no DEEDS", () -> {
            SunPointer x = new SunPointer();
            due("rule(1)", x.rule(1), 0);
            due("rule(5)", x.rule(5), 0);
            due("deed(0, 0)", x.deed(0, 0), BAD);
            due("move(0, 0, 0)", x.move(0, 0, 0), BAD);
            due("see(0, 0)", x.see(0, 0), BAD);
            due("luck(5, 0, 0)", x.luck(5, 0, 0), BAD);
            due("drop(0)", x.drop(0), 0);
            due("drop(1)", x.drop(1), BAD);
            each(0, 3, what -> due("done(" + what + ")", x.done(what), 0));
        });
        test("1: SHEETS have nothing", () -> {
            SunPointer x = new SunPointer();
            each(0, 3, k -> due("lay(" + k + ", 0, 0)", x.lay(k, 0, 0), -11));
            due("count(3)", x.count(3), NONE);
        });
        test("1: an object is new whatever another one is told", () -> {
            SunPointer other = fullTown();
            other.sheet(0, 0, 5);
            other.keep(0);
            SunPointer x = new SunPointer();
            due("rule(0)", x.rule(0), 0);
            due("count(1)", x.count(1), 0);
            due("count(3)", x.count(3), NONE);
        });
    }

    private static void feedAndEnd() {
        test("2: A byte (0 to 127)", () -> bounds("feed", 0, 127, (x, c) -> x.feed(c)));
        test("2: how many it has", () -> {
            SunPointer x = new SunPointer();
            due("feed(0)", x.feed(0), 1);
            due("feed(127)", x.feed(127), 2);
            due("feed(-1)", x.feed(-1), BAD);
            due("feed(32)", x.feed(32), 3);
        });
        test("2: FULL: more than 160", () -> {
            SunPointer x = new SunPointer();
            feed(x, " ".repeat(159));
            due("the 160th", x.feed(32), 160);
            due("the 161st", x.feed(32), FULL);
            due("the 161st", x.feed(59), FULL);
            due("text(): it did not come", x.text(), 0);
            due("feed(32)", x.feed(32), 1);
        });
        test("3: THE TAPE keeps its first n bytes: how many it had", () -> {
            SunPointer x = new SunPointer();
            feed(x, "paint 1;cloud 2;?");
            due("end(17), all of them", x.end(17), 17);
            due("end(16)", x.end(16), 17);
            due("end(8)", x.end(8), 16);
            due("count(2)", x.count(2), 8);
            due("text()", x.text(), 1);
            due("rule(2)", x.rule(2), 1);
            due("rule(3)", x.rule(3), 0);
        });
        test("3: n = 0", () -> {
            SunPointer x = new SunPointer();
            due("end(0) of nothing", x.end(0), 0);
            feed(x, "?");
            due("end(0)", x.end(0), 1);
            due("text()", x.text(), 0);
        });
        test("3: BAD: below 0, more than it has", () -> {
            SunPointer x = new SunPointer();
            due("end(1) of nothing", x.end(1), BAD);
            feed(x, "abc");
            for (int n : new int[] {-1, 4, 160, 161, LEAST, MOST}) {
                due("end(" + n + ")", x.end(n), BAD);
            }
            due("count(2)", x.count(2), 3);
            feed(x, " ".repeat(157));
            due("end(161)", x.end(161), BAD);
            due("end(160)", x.end(160), 160);
            due("feed(32)", x.feed(32), FULL);
            due("end(159)", x.end(159), 160);
            due("feed(32)", x.feed(32), 160);
        });
    }

    private static void rule() {
        test("6: what 0 to 5", () -> bounds("rule", 0, 5, (x, what) -> x.rule(what)));
        test("6: with nothing there", () -> {
            SunPointer x = new SunPointer();
            int[] rules = {0, 0, 3, 0, 0, 0};
            each(0, 5, what -> due("rule(" + what + ")", x.rule(what), rules[what]));
        });
        test("6: with all full (bits each)", () -> {
            SunPointer x = told("upright 3;".repeat(4) + EVERY_HOUR + "paint 6;" + "deed 0 9;".repeat(5));
            each(0, 11, hour -> x.cloud(hour, true));
            int[] rules = {4, 5, 6, 4095, 4095, 2160};
            each(0, 5, what -> due("rule(" + what + ")", x.rule(what), rules[what]));
        });
        test("6: bits of the first and of the last HOUR", () -> {
            SunPointer x = told("upright 3;");
            x.cloud(0, true);
            x.shift(11, 0);
            due("rule(3)", x.rule(3), 1);
            due("rule(4)", x.rule(4), 2048);
        });
    }

    private static void man() {
        test("7: Of a MAN: BAD, there is none", () -> each(0, 4, men -> {
            SunPointer x = town(men, 0);
            each(0, men - 1, m -> due("man(" + m + ", 0)", x.man(m, 0), 0));
            for (int m : new int[] {-1, NONE, men, men + 1, 99, LEAST, MOST}) {
                each(0, 3, what -> due("man(" + m + ", " + what + ")", x.man(m, what), BAD));
            }
        }));
        test("7: what 0 to 3", () -> bounds("man", 0, 3, (x, what) -> x.man(0, what)));
        test("7: 2 HOURS in which he stands: none, all, CLOUDS or not", () -> {
            SunPointer x = told("upright 3;upright 3;cloud 0;" + EVERY_HOUR);
            due("man(0, 2)", x.man(0, 2), 4095);
            due("man(1, 2)", x.man(1, 2), 0);
        });
        test("7: 3 the most that he STOOD: 3 in one HOUR, 47 in all", () -> {
            SunPointer x = told("upright 3;upright 3;rota 4 4 4 4 4 4 4 4 4 4 4 0;");
            due("man(0, 3)", x.man(0, 3), 3);
            due("man(1, 3)", x.man(1, 3), NONE);
            each(0, 11, hour -> x.shift(hour, 1));
            due("man(0, 3)", x.man(0, 3), NONE);
            due("man(1, 3)", x.man(1, 3), 47);
        });
        test("7: 3 of several times the longest, first or last", () -> {
            due("first", told("lover 3;rota 0 0 0 4 0 0;").man(0, 3), 11);
            due("last", told("lover 3;rota 0 4 4 4 4 4 4 4 4 0 0 0;").man(0, 3), 11);
        });
    }

    private static void rotaAndDeed() {
        test("8: Who stands in an HOUR; NONE: nobody", () -> {
            SunPointer x = told("lover 0;lover 0;lover 0;lover 0;rota 3 4 4 4 4 4 4 4 4 4 4 0;cloud 0;");
            due("rota(0), under CLOUDS", x.rota(0), 3);
            each(1, 10, hour -> due("rota(" + hour + ")", x.rota(hour), NONE));
            due("rota(11)", x.rota(11), 0);
        });
        test("8: BAD", () -> {
            SunPointer x = fullTown();
            for (int hour : new int[] {-1, 12, NONE, LEAST, MOST}) {
                due("rota(" + hour + ")", x.rota(hour), BAD);
            }
        });
        test("9: Of a DEED: BAD, there is none", () -> each(0, 5, deeds -> {
            SunPointer x = town(0, deeds);
            each(0, deeds - 1, i -> due("deed(" + i + ", 0)", x.deed(i, 0), 5));
            for (int i : new int[] {-1, NONE, deeds, deeds + 1, LEAST, MOST}) {
                each(0, 3, what -> due("deed(" + i + ", " + what + ")", x.deed(i, what), BAD));
            }
        }));
        test("9: what 0 to 3", () -> bounds("deed", 0, 3, (x, what) -> x.deed(0, what)));
        test("9: 2 in which QUARTER it is DONE: the first, the last, NONE", () -> {
            SunPointer x = told("upright 3;" + EVERY_HOUR + "deed 0 1;deed 47 1;");
            due("deed(0, 2)", x.deed(0, 2), 0);
            due("deed(1, 2)", x.deed(1, 2), 47);
            x.paint(2);
            due("deed(0, 2), held at 0", x.deed(0, 2), 0);
            due("deed(1, 2)", x.deed(1, 2), NONE);
            due("deed(1, 3)", x.deed(1, 3), 48);
        });
    }

    private static void alterAndMove() {
        test("10: of a MAN: BAD, there is none", () -> each(0, 4, men -> {
            SunPointer x = town(men, 0);
            for (int m : new int[] {-1, NONE, men, LEAST, MOST}) {
                due("alter(" + m + ", 0, 1)", x.alter(m, 0, 1), BAD);
                due("alter(" + m + ", 1, 1)", x.alter(m, 1, 1), BAD);
            }
            each(0, men - 1, m -> due("alter(" + m + ", 0, 1)", x.alter(m, 0, 1), 0));
        }));
        test("10: (what 0, 1)", () -> bounds("alter", 0, 1, (x, what) -> x.alter(0, what, 0)));
        test("10: KIND becomes v: 0 to 3", () -> {
            SunPointer x = town(1, 0);
            each(1, 3, v -> due("alter(0, 0, " + v + ")", x.alter(0, 0, v), v - 1));
            due("alter(0, 0, 4), which a LEAN may be", x.alter(0, 0, 4), BAD);
            due("alter(0, 0, -1)", x.alter(0, 0, -1), BAD);
            due("alter(0, 0, 0)", x.alter(0, 0, 0), 3);
            due("alter(0, 0, 0), the same", x.alter(0, 0, 0), 0);
            due("man(0, 1)", x.man(0, 1), 3);
        });
        test("10: LEAN becomes v: 0 to 6", () -> {
            SunPointer x = town(1, 0);
            due("alter(0, 1, 0)", x.alter(0, 1, 0), 3);
            each(1, 6, v -> due("alter(0, 1, " + v + ")", x.alter(0, 1, v), v - 1));
            due("alter(0, 1, 7)", x.alter(0, 1, 7), BAD);
            due("alter(0, 1, -1)", x.alter(0, 1, -1), BAD);
            due("man(0, 1)", x.man(0, 1), 6);
            due("man(0, 0)", x.man(0, 0), 0);
        });
        test("11: of a DEED: BAD, there is none", () -> each(0, 5, deeds -> {
            SunPointer x = town(0, deeds);
            for (int i : new int[] {-1, NONE, deeds, LEAST, MOST}) {
                due("move(" + i + ", 0, 1)", x.move(i, 0, 1), BAD);
                due("move(" + i + ", 1, 1)", x.move(i, 1, 1), BAD);
            }
            each(0, deeds - 1, i -> due("move(" + i + ", 0, 1)", x.move(i, 0, 1), 5));
        }));
        test("11: (what 0, 1)", () -> bounds("move", 0, 1, (x, what) -> x.move(0, what, 1)));
        test("11: DUE becomes v: 0 to 47", () -> {
            SunPointer x = town(0, 1);
            due("move(0, 0, 0)", x.move(0, 0, 0), 5);
            due("move(0, 0, 47)", x.move(0, 0, 47), 0);
            due("move(0, 0, 48)", x.move(0, 0, 48), BAD);
            due("move(0, 0, -1)", x.move(0, 0, -1), BAD);
            due("move(0, 0, NONE)", x.move(0, 0, NONE), BAD);
            due("deed(0, 0)", x.deed(0, 0), 47);
            due("deed(0, 1)", x.deed(0, 1), 2);
        });
        test("11: WORTH becomes v: 1 to 9", () -> {
            SunPointer x = town(0, 1);
            due("move(0, 1, 1)", x.move(0, 1, 1), 2);
            due("move(0, 1, 9)", x.move(0, 1, 9), 1);
            due("move(0, 1, 0), which a DUE may be", x.move(0, 1, 0), BAD);
            due("move(0, 1, 10)", x.move(0, 1, 10), BAD);
            due("deed(0, 1)", x.deed(0, 1), 9);
            due("deed(0, 0)", x.deed(0, 0), 5);
        });
    }

    private static void shift() {
        test("12: a MAN stands: BAD, there is none", () -> each(0, 4, men -> {
            SunPointer x = town(men, 0);
            for (int m : new int[] {-1, STATE, FULL, -5, men, men + 1, LEAST, MOST}) {
                due("shift(3, " + m + ")", x.shift(3, m), BAD);
            }
            due("rota(3)", x.rota(3), NONE);
            each(0, men - 1, m -> due("shift(3, " + m + ")", x.shift(3, m), m == 0 ? NONE : m - 1));
        }));
        test("12: (NONE: nobody): who it was (NONE)", () -> {
            SunPointer x = town(1, 0);
            due("shift(0, NONE)", x.shift(0, NONE), NONE);
            due("shift(0, 0)", x.shift(0, 0), NONE);
            due("shift(0, 0), the same", x.shift(0, 0), 0);
            due("shift(0, NONE)", x.shift(0, NONE), 0);
            due("rule(4)", x.rule(4), 0);
            due("shift(0, NONE) without MEN", new SunPointer().shift(0, NONE), NONE);
        });
        test("12: In an HOUR: BAD", () -> {
            SunPointer x = town(1, 0);
            for (int hour : new int[] {-1, 12, LEAST, MOST}) {
                due("shift(" + hour + ", 0)", x.shift(hour, 0), BAD);
                due("shift(" + hour + ", NONE)", x.shift(hour, NONE), BAD);
            }
            due("shift(11, 0)", x.shift(11, 0), NONE);
            due("shift(0, 0)", x.shift(0, 0), NONE);
            due("rule(4)", x.rule(4), 2049);
        });
    }

    private static void cloudAndPaint() {
        test("13: An HOUR has CLOUDS, or not: whether it had (1, 0)", () -> {
            SunPointer x = town(1, 0);
            for (int hour : new int[] {0, 11}) {
                due("had none, has none", x.cloud(hour, false), 0);
                due("had none, has some", x.cloud(hour, true), 0);
                due("had some, has some", x.cloud(hour, true), 1);
                due("rule(3)", x.rule(3), 1 << hour);
                due("had some, has none", x.cloud(hour, false), 1);
                due("rule(3)", x.rule(3), 0);
            }
        });
        test("13: BAD", () -> {
            SunPointer x = fullTown();
            for (int hour : new int[] {-1, 12, 32, -32, LEAST, MOST}) {
                due("cloud(" + hour + ", true)", x.cloud(hour, true), BAD);
                due("cloud(" + hour + ", false)", x.cloud(hour, false), BAD);
            }
            due("rule(3)", x.rule(3), 2);
        });
        test("14: PAINT becomes v: what it was", () -> {
            SunPointer x = new SunPointer();
            due("paint(0)", x.paint(0), 3);
            each(1, 6, v -> due("paint(" + v + ")", x.paint(v), v - 1));
            due("paint(6), the same", x.paint(6), 6);
        });
        test("14: BAD", () -> {
            SunPointer x = new SunPointer();
            for (int v : new int[] {-1, 7, LEAST, MOST}) {
                due("paint(" + v + ")", x.paint(v), BAD);
            }
            due("rule(2)", x.rule(2), 3);
        });
    }

    private static void wantAndDrop() {
        test("15: A DEED more: how many there are; FULL", () -> {
            SunPointer x = new SunPointer();
            each(1, 5, n -> due("want", x.want(10 * n - 10, n), n));
            due("want for the 6th time", x.want(47, 9), FULL);
            each(0, 4, i -> due("DUE of " + i, x.deed(i, 0), 10 * i));
            due("drop(4)", x.drop(4), 5);
            due("want", x.want(47, 9), 5);
            due("deed(4, 0)", x.deed(4, 0), 47);
        });
        test("15: BAD: a DUE", () -> {
            SunPointer x = new SunPointer();
            for (int q : new int[] {-1, 48, NONE, LEAST, MOST}) {
                due("want(" + q + ", 1)", x.want(q, 1), BAD);
            }
            due("rule(1)", x.rule(1), 0);
            due("want(0, 1)", x.want(0, 1), 1);
            due("want(47, 1)", x.want(47, 1), 2);
        });
        test("15: BAD: a WORTH", () -> {
            SunPointer x = new SunPointer();
            for (int w : new int[] {-1, 0, 10, LEAST, MOST}) {
                due("want(0, " + w + ")", x.want(0, w), BAD);
            }
            due("rule(1)", x.rule(1), 0);
            due("want(0, 1)", x.want(0, 1), 1);
            due("want(0, 9)", x.want(0, 9), 2);
        });
        test("16: DEEDS are the first n alone: how many there were", () -> each(0, 5, deeds -> each(0, deeds, n -> {
            SunPointer x = new SunPointer();
            each(1, deeds, due -> x.want(due, 1));
            due("drop(" + n + ") of " + deeds, x.drop(n), deeds);
            due("rule(1)", x.rule(1), n);
            each(0, n - 1, i -> due("deed(" + i + ", 0)", x.deed(i, 0), i + 1));
            due("deed(" + n + ", 0)", x.deed(n, 0), BAD);
            due("count(4)", x.count(4), n);
        })));
        test("16: BAD: below 0, more than there are", () -> each(0, 5, deeds -> {
            SunPointer x = town(0, deeds);
            for (int n : new int[] {-1, deeds + 1, 6, LEAST, MOST}) {
                due("drop(" + n + ") of " + deeds, x.drop(n), BAD);
            }
            due("rule(1)", x.rule(1), deeds);
        }));
    }

    private static void showsAndLost() {
        test("17: BAD; NONE: nothing", () -> {
            SunPointer x = told("upright 3;rota 0;");
            for (int q : new int[] {-1, 48, NONE, LEAST, MOST}) {
                due("shows(" + q + ")", x.shows(q), BAD);
            }
            due("shows(0)", x.shows(0), 0);
            due("shows(3)", x.shows(3), 3);
            due("shows(4)", x.shows(4), NONE);
            due("shows(47)", x.shows(47), NONE);
        });
        test("18: in how many QUARTERS (what 0), the first (1; NONE)", () -> {
            SunPointer x = told("lover 3;" + EVERY_HOUR);
            // Back where an odd HOUR begins: 4, 12, 20, 28, 36, 44.
            due("lost(0)", x.lost(0), 6);
            due("lost(1)", x.lost(1), 4);
            x.alter(0, 0, 0);
            due("lost(0)", x.lost(0), 0);
            due("lost(1)", x.lost(1), NONE);
        });
        test("18: the first of several, behind HOURS that do not go back", () -> {
            SunPointer x = told("upright 5;upright 0;rota 4 0 0 1 0 1;");
            due("lost(0)", x.lost(0), 2);
            due("lost(1)", x.lost(1), 12);
        });
        test("18: the last HOUR alone goes back", () -> {
            SunPointer x = told("upright 6;upright 0;rota 4 4 4 4 4 4 4 4 4 4 0 1;");
            due("lost(0)", x.lost(0), 1);
            due("lost(1)", x.lost(1), 44);
        });
        test("18: BAD", () -> bounds("lost", 0, 1, (x, what) -> x.lost(what)));
    }

    private static void worst() {
        test("19: too much at most", () -> {
            SunPointer x = told("lover 6;paint 6;" + EVERY_HOUR);
            due("worst(0)", x.worst(0), 7);
            due("worst(1)", x.worst(1), 0);
        });
        test("19: too little at most", () -> {
            SunPointer x = told("tired 0;paint 0;" + EVERY_HOUR);
            due("worst(0)", x.worst(0), 12);
            due("worst(1)", x.worst(1), 40);
        });
        test("19: too little, held at 0", () -> {
            SunPointer x = told("upright 0;paint 0;rota 0 0;");
            due("worst(0)", x.worst(0), 6);
            due("worst(1)", x.worst(1), 6);
        });
        test("19: too much, held at 47", () -> {
            SunPointer x = told("upright 6;paint 6;rota 4 4 4 4 4 4 4 4 4 4 4 0;");
            due("worst(0)", x.worst(0), 3);
            due("worst(1)", x.worst(1), 44);
        });
        test("19: in which QUARTER first so much", () -> {
            SunPointer x = told("upright 5;upright 1;rota 4 0 1 0;");
            // 2 too much in HOURS 1 and 3, 2 too little in HOUR 2.
            due("worst(0)", x.worst(0), 2);
            due("worst(1)", x.worst(1), 4);
            x.alter(1, 1, 0);
            due("worst(0)", x.worst(0), 3);
            due("worst(1)", x.worst(1), 8);
        });
        test("19: off by 0", () -> {
            SunPointer x = told("upright 3;rota 4 4 0;");
            due("worst(0)", x.worst(0), 0);
            due("worst(1)", x.worst(1), 8);
        });
        test("19: NONE: it READS nothing", () -> {
            SunPointer x = told("upright 3;rota 0;cloud 0;");
            due("worst(0)", x.worst(0), NONE);
            due("worst(1)", x.worst(1), NONE);
            due("worst(0) of a new one", new SunPointer().worst(0), NONE);
        });
        test("19: BAD", () -> bounds("worst", 0, 1, (x, what) -> x.worst(what)));
    }

    private static void done() {
        test("20: too early (0), in time (1), too late (2), never (3), each by 1", () -> {
            SunPointer x = told("upright 4;upright 3;upright 2;rota 0 1 2;deed 3 1;deed 6 1;deed 8 1;deed 12 1;");
            due("DONE 1 too early", x.deed(0, 2), 2);
            due("DONE in time", x.deed(1, 2), 6);
            due("DONE 1 too late", x.deed(2, 2), 9);
            each(0, 3, what -> due("done(" + what + ")", x.done(what), 1 << what));
        });
        test("20: all DEEDS (bits)", () -> {
            SunPointer x = town(1, 5);
            due("done(3)", x.done(3), 31);
            x.shift(1, 0);
            due("done(1)", x.done(1), 31);
            due("done(3)", x.done(3), 0);
            x.paint(4);
            due("done(0)", x.done(0), 31);
            x.paint(2);
            due("done(2)", x.done(2), 31);
        });
        test("20: no DEEDS", () -> each(0, 3, what -> due("done", new SunPointer().done(what), 0)));
        test("20: BAD", () -> bounds("done", 0, 3, (x, what) -> x.done(what)));
    }

    private static void lean() {
        test("21: in a QUARTER or before", () -> {
            SunPointer x = told("upright 0;rota 4 0 0 0;deed 8 1;");
            due("lean(0, 0, 8), by 3 in it", x.lean(0, 0, 8), 3);
            due("lean(0, 0, 9), by 3 before", x.lean(0, 0, 9), 3);
            due("lean(0, 0, 47)", x.lean(0, 0, 47), 3);
            due("lean(0, 0, 7)", x.lean(0, 0, 7), 4);
            due("lean(0, 0, 6)", x.lean(0, 0, 6), 5);
            due("lean(0, 0, 5)", x.lean(0, 0, 5), 6);
            due("lean(0, 0, 4)", x.lean(0, 0, 4), NONE);
            due("lean(0, 0, 0)", x.lean(0, 0, 0), NONE);
        });
        test("21: the first and the last QUARTER", () -> {
            SunPointer x = told("upright 0;" + EVERY_HOUR + "deed 0 1;deed 47 1;");
            due("lean(0, 0, 0)", x.lean(0, 0, 0), 3);
            due("lean(0, 1, 47)", x.lean(0, 1, 47), 3);
            due("lean(0, 1, 46)", x.lean(0, 1, 46), 4);
            due("lean(0, 1, 44)", x.lean(0, 1, 44), 6);
            due("lean(0, 1, 43)", x.lean(0, 1, 43), NONE);
        });
        test("21: one who does not stand, a DEED that another does", () -> {
            SunPointer x = told("upright 0;upright 3;rota 1 1;deed 4 1;");
            due("lean(0, 0, 4)", x.lean(0, 0, 4), 3);
            due("lean(0, 0, 3)", x.lean(0, 0, 3), NONE);
        });
        test("21: NONE: by none, never DONE", () -> {
            SunPointer x = told("upright 0;rota 0;deed 7 1;deed 6 1;");
            due("lean(0, 0, 47)", x.lean(0, 0, 47), NONE);
            due("lean(0, 1, 47)", x.lean(0, 1, 47), 6);
            x.cloud(0, true);
            due("lean(0, 1, 47) under CLOUDS", x.lean(0, 1, 47), NONE);
        });
        test("21: BAD", () -> {
            bounds("lean m", 0, 3, (x, m) -> x.lean(m, 0, 20));
            bounds("lean i", 0, 4, (x, i) -> x.lean(0, i, 20));
            bounds("lean quarter", 0, 47, (x, quarter) -> x.lean(0, 0, quarter));
            due("lean(0, 0, NONE)", fullTown().lean(0, 0, NONE), BAD);
        });
        test("21: the LEAN that he has stays", () -> {
            SunPointer x = told("upright 0;rota 0 0;deed 4 1;");
            due("lean(0, 0, 1)", x.lean(0, 0, 1), 6);
            due("man(0, 1)", x.man(0, 1), 0);
            due("deed(0, 2)", x.deed(0, 2), 7);
        });
    }

    private static void mark() {
        test("22: the PAINT: 0, 6", () -> {
            SunPointer x = told("upright 6;" + EVERY_HOUR + "deed 20 1;");
            due("mark(0)", x.mark(0), 0);
            due("mark(1)", x.mark(1), 0);
            x.alter(0, 1, 0);
            due("mark(0)", x.mark(0), 6);
            due("mark(1)", x.mark(1), 0);
            x.alter(0, 0, 1);
            due("mark(0), where 7 would be better", x.mark(0), 6);
            due("mark(1), where 7 would be better", x.mark(1), 1);
        });
        test("22: of several the least", () -> {
            SunPointer x = told("upright 3;rota 4 4 0;deed 9 2;deed 11 2;");
            // PAINT 3: in time both. With HOUR 2 alone under PAINT 2: 10 and never.
            due("mark(0)", x.mark(0), 3);
            x.move(0, 0, 8);
            x.move(1, 0, 5);
            // DUE 8 and 5: DONE in 8 by PAINT 3 to 6 both.
            due("mark(0) of several", x.mark(0), 3);
            due("mark(1) of several", x.mark(1), 6);
        });
        test("22: no DEEDS, nobody stands", () -> {
            due("mark(0)", new SunPointer().mark(0), 0);
            due("mark(1)", new SunPointer().mark(1), 0);
            due("mark(0)", town(1, 1).mark(0), 0);
            due("mark(1)", town(1, 1).mark(1), 96);
        });
        test("22: BAD", () -> bounds("mark", 0, 1, (x, what) -> x.mark(what)));
        test("22: the PAINT that there is stays", () -> {
            SunPointer x = told("upright 0;" + EVERY_HOUR + "deed 20 1;");
            x.mark(0);
            due("rule(2)", x.rule(2), 3);
            due("rule(5)", x.rule(5), 3);
        });
    }

    private static void give() {
        test("23: 10 times the HOUR and the MAN: the first, the last", () -> {
            SunPointer x = told("upright 3;deed 0 1;");
            due("give(0)", x.give(0), 0);
            due("give(1)", x.give(1), 0);
            SunPointer y = told("upright 0;upright 0;upright 0;upright 3;deed 47 1;");
            due("give(0)", y.give(0), 113);
            due("give(1)", y.give(1), 0);
        });
        test("23: less than now", () -> {
            SunPointer x = told("upright 3;upright 3;rota 0;deed 0 1;");
            due("give(0), HARM is 0", x.give(0), NONE);
            due("give(1), HARM is 0", x.give(1), NONE);
            SunPointer y = told("upright 0;upright 0;deed 47 1;rota 1 1;");
            due("give(0), no HARM is less", y.give(0), NONE);
            due("give(1), no HARM is less", y.give(1), NONE);
        });
        test("23: of several the least", () -> {
            SunPointer x = told("upright 0;upright 3;upright 3;deed 20 1;deed 40 1;");
            // In time by MAN 1 or 2 in HOUR 5 or 10, in HOUR 10 the other too late by 20.
            due("give(0)", x.give(0), 101);
            due("give(1)", x.give(1), 20);
        });
        test("23: NONE: no MEN, no DEEDS", () -> {
            due("give(0)", town(0, 5).give(0), NONE);
            due("give(1)", town(0, 5).give(1), NONE);
            due("give(0)", town(4, 0).give(0), NONE);
            due("give(1)", town(4, 0).give(1), NONE);
        });
        test("23: BAD", () -> bounds("give", 0, 1, (x, what) -> x.give(what)));
        test("23: THE ROTA stays", () -> {
            SunPointer x = told("upright 3;deed 0 1;");
            x.give(0);
            due("rule(4)", x.rule(4), 0);
            due("rule(5)", x.rule(5), 48);
        });
    }

    private static void swap() {
        test("24: 100 times the lesser and the greater: the first two, the last two", () -> {
            SunPointer x = told("upright 3;rota 4 0;deed 0 1;");
            due("swap(0)", x.swap(0), 1);
            due("swap(1)", x.swap(1), 0);
            SunPointer y = told("upright 3;rota 4 4 4 4 4 4 4 4 4 4 0;deed 44 1;");
            due("swap(0)", y.swap(0), 1011);
            due("swap(1)", y.swap(1), 0);
            SunPointer z = told("upright 3;rota 0;deed 44 1;");
            due("swap(0)", z.swap(0), 11);
            due("swap(1)", z.swap(1), 0);
        });
        test("24: less than now", () -> {
            SunPointer x = told("upright 3;upright 3;rota 0 1;deed 0 1;");
            due("swap(0), HARM is 0", x.swap(0), NONE);
            due("swap(1), HARM is 0", x.swap(1), NONE);
            SunPointer y = told("upright 0;rota 0 0;deed 47 1;");
            due("swap(0), no HARM is less", y.swap(0), NONE);
            due("swap(1), no HARM is less", y.swap(1), NONE);
        });
        test("24: of several the least", () -> {
            SunPointer x = told("upright 3;rota 0 0 0;deed 21 1;");
            due("swap(0)", x.swap(0), 5);
            due("swap(1)", x.swap(1), 0);
        });
        test("24: CLOUDS stay in their HOURS", () -> {
            SunPointer x = told("upright 3;rota 4 0;cloud 0;deed 0 1;");
            due("swap(0)", x.swap(0), NONE);
            x.cloud(0, false);
            x.cloud(1, true);
            due("swap(0)", x.swap(0), 1);
        });
        test("24: NONE: nobody stands, the same one in all, no DEEDS", () -> {
            due("swap(0)", town(4, 5).swap(0), NONE);
            due("swap(1)", town(4, 5).swap(1), NONE);
            due("swap(0)", told("upright 0;" + EVERY_HOUR + "deed 9 1;").swap(0), NONE);
            due("swap(0)", told("upright 0;rota 0;").swap(0), NONE);
        });
        test("24: BAD", () -> bounds("swap", 0, 1, (x, what) -> x.swap(what)));
        test("24: THE ROTA stays", () -> {
            SunPointer x = told("upright 3;rota 4 0;deed 0 1;");
            x.swap(0);
            due("rule(4)", x.rule(4), 2);
        });
    }

    private static void sole() {
        test("25: the first MAN, the last MAN", () -> {
            SunPointer x = told("upright 3;upright 0;upright 0;upright 2;deed 20 1;");
            due("sole(0)", x.sole(0), 0);
            due("sole(1)", x.sole(1), 0);
            x.alter(0, 1, 0);
            due("sole(0)", x.sole(0), 3);
            due("sole(1)", x.sole(1), 1);
        });
        test("25: of several the first", () -> {
            SunPointer x = told("upright 0;upright 3;stooped 4;upright 3;deed 20 1;");
            due("sole(0)", x.sole(0), 1);
            due("sole(1)", x.sole(1), 0);
        });
        test("25: also with more HARM than now", () -> {
            SunPointer x = told("upright 6;paint 6;rota 4 0;deed 4 1;");
            // Now DONE in 4, where he comes to stand; from dawn on he would bring it in 0.
            due("rule(5)", x.rule(5), 0);
            due("sole(0)", x.sole(0), 0);
            due("sole(1)", x.sole(1), 4);
        });
        test("25: no DEEDS, CLOUDS in all HOURS", () -> {
            due("sole(0)", town(2, 0).sole(0), 0);
            due("sole(1)", town(2, 0).sole(1), 0);
            SunPointer x = town(2, 5);
            each(0, 11, hour -> x.cloud(hour, true));
            due("sole(0)", x.sole(0), 0);
            due("sole(1)", x.sole(1), 480);
        });
        test("25: NONE: there are no MEN", () -> each(0, 5, deeds -> {
            due("sole(0)", town(0, deeds).sole(0), NONE);
            due("sole(1)", town(0, deeds).sole(1), NONE);
        }));
        test("25: BAD", () -> bounds("sole", 0, 1, (x, what) -> x.sole(what)));
        test("25: THE ROTA stays", () -> {
            SunPointer x = town(1, 1);
            x.sole(0);
            due("rule(4)", x.rule(4), 0);
        });
    }

    private static void mean() {
        test("26: v out of ten (0 to 10)", () -> {
            bounds("mean 0", 0, 10, (x, v) -> x.mean(v, 0));
            bounds("mean 1", 0, 10, (x, v) -> x.mean(v, 1));
        });
        test("26: what 0, 1", () -> bounds("mean", 0, 1, (x, what) -> x.mean(5, what)));
        test("26: v = 0: HARM as it is", () -> {
            SunPointer x = fullTown();
            due("mean(0, 0)", x.mean(0, 0), x.rule(5));
            due("mean(0, 1)", x.mean(0, 1), 1);
        });
        test("26: v = 10: nothing is DONE", () -> {
            SunPointer x = fullTown();
            due("mean(10, 0)", x.mean(10, 0), 48 * x.count(4));
            due("mean(10, 1)", x.mean(10, 1), 1);
        });
        test("26: an HOUR without CLOUDS in which somebody stands, no other", () -> {
            SunPointer x = told("upright 3;rota 0 0 4 0;cloud 0;deed 5 1;");
            // By 9/10 in time, by 9/100 in 12 (HARM 7), by 1/100 never.
            due("mean(1, 0)", x.mean(1, 0), 111);
            due("mean(1, 1)", x.mean(1, 1), 100);
        });
        test("26: by itself, each HOUR", () -> {
            SunPointer x = told("upright 3;rota 0 0 0;deed 0 1;");
            // By 1/2 in 0, by 1/4 in 4, by 1/8 in 8, by 1/8 never: 1 + 1 + 6.
            due("mean(5, 0)", x.mean(5, 0), 8);
            due("mean(5, 1)", x.mean(5, 1), 1);
        });
        test("26: at its most", () -> {
            SunPointer x = told("upright 3;" + EVERY_HOUR + "deed 0 9;".repeat(5));
            due("mean(10, 0)", x.mean(10, 0), 2160);
            // 45 times the sum of 4 h (9/10)^h 1/10 over 12 HOURS, and 48 (9/10)^12.
            due("mean(9, 0)", x.mean(9, 0), 58123207545039L);
            due("mean(9, 1)", x.mean(9, 1), 50000000000L);
        });
        test("26: no DEEDS, nobody", () -> {
            due("mean(5, 0)", new SunPointer().mean(5, 0), 0);
            due("mean(5, 1)", new SunPointer().mean(5, 1), 1);
            due("mean(5, 0)", town(1, 1).mean(5, 0), 96);
            due("mean(5, 1)", town(1, 1).mean(5, 1), 1);
        });
        test("26: CLOUDS stay as they are", () -> {
            SunPointer x = fullTown();
            x.mean(5, 0);
            due("rule(3)", x.rule(3), 2);
        });
    }

    private static void luck() {
        test("27: v out of ten (0 to 10)", () -> bounds("luck", 0, 10, (x, v) -> x.luck(v, 0, 0)));
        test("27: a DEED", () -> {
            bounds("luck", 0, 4, (x, i) -> x.luck(5, i, 0));
            each(0, 5, deeds -> due("luck", town(1, deeds).luck(5, deeds, 0), BAD));
        });
        test("27: what 0, 1", () -> bounds("luck", 0, 1, (x, what) -> x.luck(5, 0, what)));
        test("27: v = 0: it is DONE, or never", () -> {
            SunPointer x = told("upright 3;rota 0;deed 3 1;deed 4 1;");
            due("luck(0, 0, 0)", x.luck(0, 0, 0), 1);
            due("luck(0, 0, 1)", x.luck(0, 0, 1), 1);
            due("luck(0, 1, 0)", x.luck(0, 1, 0), 0);
            due("luck(0, 1, 1)", x.luck(0, 1, 1), 1);
        });
        test("27: v = 10: it is never DONE", () -> {
            SunPointer x = fullTown();
            each(0, 4, i -> {
                due("luck(10, " + i + ", 0)", x.luck(10, i, 0), 0);
                due("luck(10, " + i + ", 1)", x.luck(10, i, 1), 1);
            });
        });
        test("27: HOURS that have CLOUDS, HOURS too early, do not help", () -> {
            SunPointer x = told("upright 3;rota 0 0 0 0;cloud 2;deed 7 1;");
            // HOUR 1 in its last QUARTER, HOUR 3: 1 less 9/100.
            due("luck(3, 0, 0)", x.luck(3, 0, 0), 91);
            due("luck(3, 0, 1)", x.luck(3, 0, 1), 100);
            x.move(0, 0, 8);
            due("luck(3, 0, 0)", x.luck(3, 0, 0), 7);
            due("luck(3, 0, 1)", x.luck(3, 0, 1), 10);
        });
    }

    private static void seeAndForget() {
        test("28: a DEED: BAD, there is none", () -> {
            bounds("see", 0, 4, (x, i) -> x.see(i, 5));
            each(0, 5, deeds -> due("see", town(0, deeds).see(deeds, 5), BAD));
        });
        test("28: in a QUARTER (NONE: never)", () -> {
            bounds("see", 0, 47, (x, quarter) -> x.see(0, quarter));
            due("see(0, NONE)", fullTown().see(0, NONE), 1);
            for (int quarter : new int[] {STATE, FULL, -5}) {
                due("see(0, " + quarter + ")", fullTown().see(0, quarter), BAD);
            }
        });
        test("28: how many are; FULL", () -> {
            SunPointer x = fullTown();
            each(1, 6, n -> due("see", x.see(n % 5, n), n));
            due("see", x.see(0, 0), FULL);
            due("see", x.see(0, NONE), FULL);
        });
        test("29: SEEN are the first n alone: how many there were", () -> each(0, 6, seen -> each(0, seen, n -> {
            SunPointer x = town(1, 1);
            each(1, seen, s -> x.see(0, 5));
            due("forget(" + n + ") of " + seen, x.forget(n), seen);
            due("count(0)", x.count(0), n);
        })));
        test("29: the first ones stay", () -> {
            SunPointer x = told("upright 3;rota 0 0 0;deed 5 1;");
            x.see(0, 6);
            x.see(0, 7);
            due("leans(0)", x.leans(0), 0);
            due("forget(1)", x.forget(1), 2);
            due("leans(0)", x.leans(0), 1 << 2);
        });
        test("29: BAD: below 0, more than there are", () -> each(0, 6, seen -> {
            SunPointer x = town(1, 1);
            each(1, seen, s -> x.see(0, 5));
            for (int n : new int[] {-1, seen + 1, 7, LEAST, MOST}) {
                due("forget(" + n + ") of " + seen, x.forget(n), BAD);
            }
            due("count(0)", x.count(0), seen);
        }));
    }

    private static void leansAndKinds() {
        test("30: BAD: there is no such MAN", () -> {
            bounds("leans", 0, 3, (x, m) -> x.leans(m));
            each(0, 4, men -> due("leans", town(men, 1).leans(men), BAD));
        });
        test("30: nothing SEEN: all LEANS", () -> each(0, 3, m -> due("leans", fullTown().leans(m), 127)));
        test("30: the first and the last LEAN", () -> {
            SunPointer x = told("upright 3;rota 0 0 0;deed 6 1;");
            x.see(0, 9);
            due("leans(0)", x.leans(0), 1);
            x.forget(0);
            x.see(0, 3);
            due("leans(0)", x.leans(0), 64);
            x.forget(0);
            x.see(0, 10);
            due("leans(0), by none", x.leans(0), 0);
        });
        test("30: all is as SEEN", () -> {
            SunPointer x = told("upright 3;rota 0 4 0;deed 3 1;deed 9 1;");
            x.see(0, 0);
            due("leans(0)", x.leans(0), 64);
            x.forget(0);
            x.see(1, 8);
            due("leans(0)", x.leans(0), 16 | 32 | 64);
            x.see(0, 1);
            due("leans(0)", x.leans(0), 32);
            x.see(0, 2);
            due("leans(0)", x.leans(0), 0);
        });
        test("31: BAD: there is no such MAN", () -> {
            bounds("kinds", 0, 3, (x, m) -> x.kinds(m));
            each(0, 4, men -> due("kinds", town(men, 1).kinds(men), BAD));
        });
        test("31: nothing SEEN: all KINDS", () -> each(0, 3, m -> due("kinds", fullTown().kinds(m), 15)));
        test("31: each KIND by itself, none", () -> {
            SunPointer x = told("upright 3;rota 4 4 0 0 0;deed 12 1;deed 17 1;deed 10 1;");
            x.see(2, 10);
            due("kinds(0), upright", x.kinds(0), 1);
            x.forget(0);
            x.see(2, 9);
            due("kinds(0), lover", x.kinds(0), 8);
            x.forget(0);
            x.see(2, 11);
            due("kinds(0), stooped or tired", x.kinds(0), 2 | 4);
            x.see(1, 18);
            due("kinds(0), stooped", x.kinds(0), 2);
            x.forget(1);
            x.see(1, 19);
            due("kinds(0), tired", x.kinds(0), 4);
            x.see(1, NONE);
            due("kinds(0), none", x.kinds(0), 0);
        });
        test("30, 31: LEAN and KIND stay", () -> {
            SunPointer x = fullTown();
            x.leans(1);
            x.kinds(1);
            due("man(1, 0)", x.man(1, 0), 1);
            due("man(1, 1)", x.man(1, 1), 5);
        });
    }

    private static void ask() {
        test("32: BAD", () -> {
            bounds("ask m", 0, 3, (x, m) -> x.ask(m, 0));
            bounds("ask what", 0, 1, (x, what) -> x.ask(0, what));
            each(0, 4, men -> due("ask", town(men, 1).ask(men, 0), BAD));
        });
        test("32: NONE: no DEEDS", () -> {
            due("ask(0, 0)", town(1, 0).ask(0, 0), NONE);
            due("ask(0, 1)", town(1, 0).ask(0, 1), NONE);
        });
        test("32: NONE: each DEED is DONE alike by all LEANS", () -> {
            due("ask(0, 0)", town(1, 5).ask(0, 0), NONE);
            due("ask(0, 1)", town(1, 5).ask(0, 1), NONE);
        });
        test("32: NONE: one LEAN is left, none is", () -> {
            SunPointer x = told("upright 3;rota 0 0 0;deed 6 1;");
            due("ask(0, 0)", x.ask(0, 0), 0);
            due("ask(0, 1)", x.ask(0, 1), 1);
            x.see(0, 6);
            due("ask(0, 0), one is left", x.ask(0, 0), NONE);
            due("ask(0, 1), one is left", x.ask(0, 1), NONE);
            x.see(0, 7);
            due("ask(0, 0), none is left", x.ask(0, 0), NONE);
            due("ask(0, 1), none is left", x.ask(0, 1), NONE);
        });
        test("32: fewer than now: just one fewer will do", () -> {
            SunPointer x = told("upright 3;rota 0;deed 6 1;");
            // By LEAN 6 in 3, by all others never.
            due("ask(0, 0)", x.ask(0, 0), 0);
            due("ask(0, 1)", x.ask(0, 1), 6);
            x.see(0, NONE);
            due("ask(0, 0)", x.ask(0, 0), NONE);
        });
        test("32: the first of several, the last DEED", () -> {
            SunPointer x = told("upright 3;rota 0 0 0;deed 47 1;deed 6 1;deed 6 1;deed 0 1;");
            due("ask(0, 0)", x.ask(0, 0), 1);
            due("ask(0, 1)", x.ask(0, 1), 1);
            x.move(1, 0, 47);
            x.move(2, 0, 47);
            x.want(6, 1);
            due("ask(0, 0)", x.ask(0, 0), 4);
        });
        test("32: of LEANS that are left, no others", () -> {
            SunPointer x = told("upright 3;rota 4 0;deed 4 1;deed 10 1;");
            // DUE 10 by LEAN 6 alone. DUE 4 by LEANS 3 to 6 in 4, by each of the others later.
            x.see(1, NONE);
            due("leans(0)", x.leans(0), 63);
            due("ask(0, 0)", x.ask(0, 0), 0);
            due("ask(0, 1)", x.ask(0, 1), 3);
        });
        test("32: at the worst, by when it is DONE", () -> {
            SunPointer x = told("upright 3;rota 4 0 4 0;deed 7 1;deed 5 1;");
            // DUE 7 by LEANS 0 to 2 in 12, by 3 to 6 in 7 to 4. DUE 5 by 0, 1 and by 2, 3 alone, by 4 to 6 in 4.
            due("ask(0, 0)", x.ask(0, 0), 0);
            due("ask(0, 1)", x.ask(0, 1), 3);
            x.see(1, 4);
            due("leans(0)", x.leans(0), 16 | 32 | 64);
            due("ask(0, 0)", x.ask(0, 0), 0);
            due("ask(0, 1)", x.ask(0, 1), 1);
        });
    }

    private static void changed() {
        test("what calls have changed is asked of as what a text has told", () -> {
            SunPointer y = told("tired 2;upright 5;rota 0 0 0 4 1 1;cloud 1;paint 4;deed 6 3;deed 11 1;");
            each(0, 1, what -> {
                SunPointer[] x = {town(2, 2), town(2, 2), town(2, 2), town(2, 2), town(2, 2), town(2, 2), town(2, 2)};
                for (SunPointer each : x) {
                    change(each);
                }
                due("lean", x[0].lean(1, 1, 17 + what), y.lean(1, 1, 17 + what));
                due("mark", x[1].mark(what), y.mark(what));
                due("give", x[2].give(what), y.give(what));
                due("swap", x[3].swap(what), y.swap(what));
                due("sole", x[4].sole(what), y.sole(what));
                due("drift", x[5].drift(3, 2, what), y.drift(3, 2, what));
                due("ask", x[6].ask(0, what), y.ask(0, what));
                due("mean", x[0].mean(3, what), y.mean(3, what));
                due("luck", x[0].luck(3, 1, what), y.luck(3, 1, what));
            });
            SunPointer x = town(2, 2);
            change(x);
            x.see(0, 8);
            y.see(0, 8);
            each(0, 1, m -> due("leans", x.leans(m), y.leans(m)));
            each(0, 1, m -> due("kinds", x.kinds(m), y.kinds(m)));
        });
    }

    private static void change(SunPointer x) {
        x.alter(0, 0, 2);
        x.alter(0, 1, 2);
        x.alter(1, 1, 5);
        each(0, 2, hour -> x.shift(hour, 0));
        each(4, 5, hour -> x.shift(hour, 1));
        x.cloud(1, true);
        x.paint(4);
        x.move(0, 0, 6);
        x.move(0, 1, 3);
        x.drop(1);
        x.want(11, 1);
    }

    /** The same by shift() and rule(5) on another object, the seed as a number without a bound. */
    private static void drifted(int men, int seed, int n) {
        String text = "upright 3;stooped 5;tired 2;lover 4;".substring(0, new int[] {0, 10, 20, 28, 36}[men])
                + "rota 0 0 4 0;cloud 2;deed 9 3;deed 30 2;";
        SunPointer x = told(text);
        SunPointer twin = told(text);
        BigInteger next = BigInteger.valueOf(seed);
        int sum = 0;
        int hour = 0;
        for (int t = 0; t < 2 * n; t++) {
            next = next.multiply(BigInteger.valueOf(1103515245)).add(BigInteger.valueOf(12345));
            int bits = next.shiftRight(16).and(BigInteger.valueOf(0x7FFF)).intValue();
            if (t % 2 == 0) {
                hour = bits % 12;
            } else {
                int who = bits % (men + 1);
                twin.shift(hour, who == men ? NONE : who);
                sum += twin.rule(5);
            }
        }
        String call = "drift(" + seed + ", " + n + ", what) of " + men + " MEN";
        due(call + ", 0", x.drift(seed, n, 0), sum);
        due(call + ", 1", x.drift(seed, n, 1), twin.rule(4));
        due("rule(4), which stays", x.rule(4), 11);
    }

    private static void drift() {
        test("33: n times (1 to 40)", () -> bounds("drift", 1, 40, (x, n) -> x.drift(7, n, 0)));
        test("33: what 0, 1", () -> bounds("drift", 0, 1, (x, what) -> x.drift(7, 5, what)));
        test("33: STATE: there are no MEN", () -> each(0, 5, deeds -> {
            due("drift(7, 1, 0)", town(0, deeds).drift(7, 1, 0), STATE);
            due("drift(7, 40, 1)", town(0, deeds).drift(7, 40, 1), STATE);
        }));
        test("33: by a seed: 0, its ends, wrapped around", () -> {
            for (int seed : new int[] {0, 1, -1, 2, 65535, 65536, LEAST, LEAST + 1, MOST, MOST - 1, 123456789}) {
                drifted(1, seed, 1);
                drifted(2, seed, 2);
                drifted(4, seed, 40);
            }
        });
        test("33: modulo MEN and 1 (the last number nobody)", () -> each(1, 4, men -> each(1, 40, n -> {
            drifted(men, 31 * n + men, n);
        })));
        test("33: no DEEDS", () -> due("drift(5, 40, 0)", town(1, 0).drift(5, 40, 0), 0));
    }

    private static void manyCalls() {
        test("An object is used for at most 512 calls: the 512th is as the first", () -> {
            SunPointer x = told("upright 3;" + EVERY_HOUR + "deed 20 1;");
            for (int calls = 51; calls < 511; calls++) {
                x.drift(calls, 40, 0);
            }
            due("rule(4)", x.rule(4), 4095);
            SunPointer y = new SunPointer();
            each(1, 511, n -> y.feed(32));
            due("feed(32)", y.feed(32), FULL);
        });
    }
}
