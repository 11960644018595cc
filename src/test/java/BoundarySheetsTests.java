/** Promises 34 to 40, images and sheets: for each sentence that names a bound, a test of its own. */
public final class BoundarySheetsTests extends Checks {
    public static void main(String[] args) {
        keep();
        back();
        sheet();
        lay();
        readNumbers();
        readWhatComes();
        readBad();
        torn();
        count();
        finish();
    }

    /** A SHEET of a lane with these CELLS. */
    private static void fill(SunPointer x, int k, int lane, int... cells) {
        x.sheet(k, lane, cells.length);
        for (int i = 0; i < cells.length; i++) {
            x.lay(k, i, cells[i]);
        }
    }

    private static SunPointer twoMen(int lane, int... cells) {
        SunPointer x = told("upright 3;upright 3;");
        fill(x, 0, lane, cells);
        return x;
    }

    private static void keep() {
        test("34: IMAGE k (0, 1)", () -> bounds("keep", 0, 1, (x, k) -> x.keep(k)));
        test("34: whether there was one (1, 0)", () -> {
            SunPointer x = new SunPointer();
            due("keep(1)", x.keep(1), 0);
            due("keep(1)", x.keep(1), 1);
            due("keep(0)", x.keep(0), 0);
            due("keep(0)", x.keep(0), 1);
        });
        test("34: the later one comes in place of the earlier one", () -> {
            SunPointer x = new SunPointer();
            x.keep(0);
            x.paint(6);
            x.keep(0);
            x.paint(1);
            due("back(0)", x.back(0), 0);
            due("rule(2)", x.rule(2), 6);
        });
        test("34: MEN, THE ROTA, CLOUDS, PAINT, DEEDS (all of them)", () -> {
            SunPointer x = fullTown();
            x.keep(0);
            each(0, 3, m -> x.alter(m, 0, 3 - m));
            each(0, 3, m -> x.alter(m, 1, 0));
            each(0, 11, hour -> x.shift(hour, NONE));
            each(0, 11, hour -> x.cloud(hour, hour != 1));
            x.paint(6);
            each(0, 4, i -> x.move(i, 0, 24));
            each(0, 4, i -> x.move(i, 1, 5));
            SunPointer twin = fullTown();
            due("back(0)", x.back(0), twin.rule(5));
            each(0, 5, what -> due("rule(" + what + ")", x.rule(what), twin.rule(what)));
            each(0, 3, m -> each(0, 3, what -> due("man", x.man(m, what), twin.man(m, what))));
            each(0, 11, hour -> due("rota(" + hour + ")", x.rota(hour), twin.rota(hour)));
            each(0, 4, i -> each(0, 3, what -> due("deed", x.deed(i, what), twin.deed(i, what))));
            each(0, 47, q -> due("shows(" + q + ")", x.shows(q), twin.shows(q)));
        });
        test("34: with nothing there", () -> {
            SunPointer x = new SunPointer();
            x.keep(1);
            x.want(5, 5);
            x.paint(0);
            x.cloud(0, true);
            due("back(1)", x.back(1), 0);
            int[] rules = {0, 0, 3, 0, 0, 0};
            each(0, 5, what -> due("rule(" + what + ")", x.rule(what), rules[what]));
        });
        test("34: what is changed behind it does not reach it", () -> {
            SunPointer x = fullTown();
            x.keep(0);
            x.back(0);
            x.alter(0, 1, 0);
            x.shift(0, 3);
            x.move(0, 0, 47);
            x.back(0);
            due("man(0, 1)", x.man(0, 1), 3);
            due("rota(0)", x.rota(0), 0);
            due("deed(0, 0)", x.deed(0, 0), 9);
        });
    }

    private static void back() {
        test("35: BAD", () -> {
            SunPointer x = fullTown();
            x.keep(0);
            x.keep(1);
            for (int k : new int[] {-1, 2, LEAST, MOST}) {
                due("back(" + k + ")", x.back(k), BAD);
            }
        });
        test("35: STATE: there is none", () -> {
            SunPointer x = fullTown();
            due("back(0)", x.back(0), STATE);
            x.keep(0);
            due("back(1)", x.back(1), STATE);
            due("back(0)", x.back(0) >= 0);
            SunPointer y = fullTown();
            y.keep(1);
            due("back(0)", y.back(0), STATE);
            due("back(1)", y.back(1) >= 0);
        });
        test("35: All is as IMAGE k: HARM of all", () -> {
            SunPointer x = told("deed 1 9;");
            x.keep(0);
            x.want(2, 1);
            x.keep(1);
            x.drop(0);
            due("back(0)", x.back(0), 432);
            due("rule(1)", x.rule(1), 1);
            due("back(1)", x.back(1), 480);
            due("rule(1)", x.rule(1), 2);
            due("back(1), which is still there", x.back(1), 480);
            due("count(1)", x.count(1), 2);
        });
        test("35: SEEN, SHEETS, THE TAPE are no part of an IMAGE", () -> {
            SunPointer x = fullTown();
            x.keep(0);
            x.see(0, 1);
            x.sheet(0, 0, 4);
            x.feed(32);
            x.back(0);
            due("count(0)", x.count(0), 1);
            due("count(2)", x.count(2), 1);
            due("count(3)", x.count(3), 4);
        });
    }

    private static void sheet() {
        test("36: BAD: k", () -> bounds("sheet", 0, 3, (x, k) -> x.sheet(k, 2, 40)));
        test("36: BAD: lane", () -> bounds("sheet", 0, 2, (x, lane) -> x.sheet(3, lane, 40)));
        test("36: BAD: also n above 40", () -> each(0, 2, lane -> {
            SunPointer x = new SunPointer();
            due("sheet(0, lane, 41)", x.sheet(0, lane, 41), BAD);
            due("sheet(0, lane, MOST)", x.sheet(0, lane, MOST), BAD);
            due("count(3)", x.count(3), NONE);
            due("sheet(0, lane, 40)", x.sheet(0, lane, 40), 1);
            due("count(3)", x.count(3), 40);
        }));
        test("36: -10 - 4: n below 0", () -> each(0, 2, lane -> {
            SunPointer x = new SunPointer();
            due("sheet(0, lane, -1)", x.sheet(0, lane, -1), -14);
            due("sheet(0, lane, LEAST)", x.sheet(0, lane, LEAST), -14);
            due("count(3)", x.count(3), NONE);
            due("sheet(0, lane, 0)", x.sheet(0, lane, 0), 1);
            due("count(3)", x.count(3), 0);
        }));
        test("36: a new row of CELLS 0", () -> {
            SunPointer x = twoMen(0, 5, 1, 5, 1);
            due("sheet(0, 0, 4)", x.sheet(0, 0, 4), 1);
            due("read(0, 0, 0, 2)", x.read(0, 0, 0, 2), 2);
            due("rule(4)", x.rule(4), 1);
            due("rota(0)", x.rota(0), 0);
        });
        test("36: a new row of 40 CELLS behind a longer life", () -> {
            SunPointer x = told("upright 3;");
            x.sheet(2, 2, 40);
            each(0, 39, i -> x.lay(2, i, 77));
            x.sheet(2, 2, 1);
            x.sheet(2, 2, 40);
            due("read(2, 2, 0, 20)", x.read(2, 2, 0, 20), 20);
            due("torn()", x.torn(), 0);
            due("rule(4)", x.rule(4), 1);
        });
        test("36: of another lane, shorter, longer", () -> {
            SunPointer x = twoMen(0, 1, 1, 1, 1);
            x.sheet(0, 2, 2);
            due("lay(0, 2, 0)", x.lay(0, 2, 0), -12);
            x.lay(0, 0, 256);
            due("read(0, 2, 0, 1)", x.read(0, 2, 0, 1), -20);
            due("read(0, 0, 0, 1)", x.read(0, 0, 0, 1), 0);
            due("torn()", x.torn(), 3);
            x.sheet(0, 1, 6);
            due("lay(0, 5, 0)", x.lay(0, 5, 0), 1);
        });
    }

    private static void lay() {
        test("37: BAD: k", () -> {
            SunPointer x = new SunPointer();
            each(0, 3, k -> x.sheet(k, 0, 1));
            each(0, 3, k -> due("lay(" + k + ", 0, 0)", x.lay(k, 0, 0), 1));
            for (int k : new int[] {-1, 4, LEAST, MOST}) {
                due("lay(" + k + ", 0, 0)", x.lay(k, 0, 0), BAD);
            }
        });
        test("37: -10 less the FAULT: NULL", () -> {
            SunPointer x = new SunPointer();
            x.sheet(0, 0, 1);
            each(1, 3, k -> due("lay(" + k + ", 0, 0)", x.lay(k, 0, 0), -11));
            due("lay(0, 0, 0)", x.lay(0, 0, 0), 1);
        });
        test("37: -10 less the FAULT: INDEX", () -> each(0, 2, lane -> {
            SunPointer x = new SunPointer();
            x.sheet(0, lane, 40);
            for (int i : new int[] {-1, 40, 41, LEAST, MOST}) {
                due("lay(0, " + i + ", 0)", x.lay(0, i, 0), -12);
            }
            due("lay(0, 0, 0)", x.lay(0, 0, 0), 1);
            due("lay(0, 39, 0)", x.lay(0, 39, 0), 1);
        }));
        test("37: no v is BAD", () -> each(0, 2, lane -> {
            SunPointer x = new SunPointer();
            x.sheet(0, lane, 1);
            for (int v : new int[] {LEAST, -65536, -1, 0, 127, 128, 255, 32767, 32768, 65535, MOST}) {
                due("lay(0, 0, " + v + ")", x.lay(0, 0, v), 1);
            }
        }));
        test("37: CELL i alone", () -> {
            SunPointer x = told("upright 3;");
            fill(x, 0, 0, 9, 0, 9, 0, 9, 0);
            x.lay(0, 2, 4);
            due("read(0, 0, 0, 1)", x.read(0, 0, 0, 1), 1);
            due("read(0, 0, 4, 1)", x.read(0, 0, 4, 1), 1);
            due("rule(4)", x.rule(4), 1 << 9);
            due("read(0, 0, 2, 1)", x.read(0, 0, 2, 1), 1);
            due("rule(4)", x.rule(4), 1 << 9 | 1 << 4);
        });
        test("37: torn() is not of lay()", () -> {
            SunPointer x = new SunPointer();
            x.lay(0, 0, 0);
            x.sheet(0, 0, -1);
            due("torn()", x.torn(), 0);
        });
    }

    private static void readNumbers() {
        test("38: BAD: k", () -> bounds("read", 0, 3, (x, k) -> x.read(k, 0, 0, 1)));
        test("38: BAD: lane", () -> bounds("read", 0, 2, (x, lane) -> x.read(0, lane, 0, 1)));
        test("38: n (0 to 20)", () -> {
            bounds("read of nothing", 0, 20, (x, n) -> x.read(0, 0, 0, n));
            each(0, 20, n -> {
                SunPointer x = told("upright 3;");
                x.sheet(0, 2, 40);
                due("read(0, 2, 0, " + n + ")", x.read(0, 2, 0, n), n);
                due("torn()", x.torn(), 0);
            });
        });
        test("38: no f is BAD", () -> {
            SunPointer x = told("upright 3;");
            x.sheet(0, 2, 40);
            for (int f : new int[] {LEAST, LEAST + 1, -41, -40, -2, -1, 39, 40, 41, MOST - 1, MOST}) {
                due("read(0, 2, " + f + ", 20)", x.read(0, 2, f, 20), 0);
                due("torn()", x.torn(), 2);
            }
            due("rule(4)", x.rule(4), 0);
        });
        test("38: n = 0: nothing is read, of nothing, at no CELL", () -> {
            SunPointer x = told("upright 3;");
            due("read(0, 0, 0, 0)", x.read(0, 0, 0, 0), 0);
            due("torn()", x.torn(), 0);
            x.sheet(0, 2, 2);
            due("read(0, 2, 99, 0)", x.read(0, 2, 99, 0), 0);
            due("torn()", x.torn(), 0);
            due("rule(4)", x.rule(4), 0);
        });
    }

    private static void readWhatComes() {
        test("38: two CELLS each from CELL f on", () -> each(0, 2, lane -> {
            SunPointer x = twoMen(lane, 1, 0, 1, 11, 1);
            due("read(0, lane, 1, 2)", x.read(0, lane, 1, 2), 2);
            due("rota(0)", x.rota(0), 1);
            due("rota(11)", x.rota(11), 1);
            due("read(0, lane, 0, 1)", x.read(0, lane, 0, 1), 1);
            due("rota(1)", x.rota(1), 0);
        }));
        test("38: up to the last CELL", () -> {
            SunPointer x = told("upright 3;");
            x.sheet(0, 1, 40);
            x.lay(0, 38, 7);
            due("read(0, 1, 38, 1)", x.read(0, 1, 38, 1), 1);
            due("rota(7)", x.rota(7), 0);
            due("torn()", x.torn(), 0);
            due("read(0, 1, 38, 2)", x.read(0, 1, 38, 2), 1);
            due("torn()", x.torn(), 2);
        });
        test("38: a MAN (or NONE), one behind another as by shift()", () -> {
            SunPointer x = twoMen(2, 3, 0, 3, 1, 4, 0, 4, NONE);
            due("read(0, 2, 0, 4)", x.read(0, 2, 0, 4), 4);
            due("rota(3), the later", x.rota(3), 1);
            due("rota(4), the later", x.rota(4), NONE);
        });
        test("38: What the machine refuses: those that were whole ahead came", () -> each(0, 5, whole -> {
            int[] cells = new int[2 * whole + 1];
            for (int i = 0; i < whole; i++) {
                cells[2 * i] = 2 * i + 1;
            }
            SunPointer x = twoMen(1, cells);
            due("read(0, 1, 0, 20)", x.read(0, 1, 0, 20), whole);
            due("torn()", x.torn(), 2);
            due("bits of " + whole, Integer.bitCount(x.rule(4)), whole);
        }));
        test("38: one that is half there is not whole, though its HOUR is none", () -> {
            SunPointer x = twoMen(1, 2, 0, 99);
            due("read(0, 1, 0, 2)", x.read(0, 1, 0, 2), 1);
            due("torn()", x.torn(), 2);
            due("rota(2)", x.rota(2), 0);
        });
        test("38: none came of nothing, of another lane", () -> {
            SunPointer x = twoMen(1, 2, 0);
            due("read(1, 1, 0, 20)", x.read(1, 1, 0, 20), 0);
            due("torn()", x.torn(), 1);
            due("read(0, 2, 0, 20)", x.read(0, 2, 0, 20), 0);
            due("torn()", x.torn(), 3);
            due("rule(4)", x.rule(4), 0);
        });
    }

    private static void readBad() {
        test("38: -20 less i: an HOUR that is none", () -> {
            for (int hour : new int[] {-1, 12, NONE, LEAST, MOST}) {
                due("HOUR " + hour, twoMen(2, hour, 0).read(0, 2, 0, 1), -20);
            }
            due("HOUR 0", twoMen(2, 0, 0).read(0, 2, 0, 1), 1);
            due("HOUR 11", twoMen(2, 11, 0).read(0, 2, 0, 1), 1);
        });
        test("38: -20 less i: a MAN that there is not", () -> {
            for (int m : new int[] {-1, STATE, FULL, -5, 2, 3, 4, LEAST, MOST}) {
                due("MAN " + m, twoMen(2, 0, m).read(0, 2, 0, 1), -20);
            }
            due("MAN 0", twoMen(2, 0, 0).read(0, 2, 0, 1), 1);
            due("MAN 1", twoMen(2, 0, 1).read(0, 2, 0, 1), 1);
            due("NONE", twoMen(2, 0, NONE).read(0, 2, 0, 1), 1);
        });
        test("38: -20 less i: without MEN, NONE alone may stand", () -> {
            SunPointer x = new SunPointer();
            x.sheet(0, 0, 4);
            due("read(0, 0, 0, 2)", x.read(0, 0, 0, 2), -20);
            x.lay(0, 1, NONE);
            due("read(0, 0, 0, 2)", x.read(0, 0, 0, 2), -21);
            x.lay(0, 3, NONE);
            due("read(0, 0, 0, 2)", x.read(0, 0, 0, 2), 2);
        });
        test("38: -20 less i: the i-th, of 0 to 19", () -> each(0, 19, i -> {
            SunPointer x = told("upright 3;");
            x.sheet(0, 0, 40);
            x.lay(0, 2 * i + 1, 1);
            due("read(0, 0, 0, 20)", x.read(0, 0, 0, 20), -20 - i);
            due("read ahead of it", x.read(0, 0, 0, i), i);
        }));
        test("38: i counts from f on", () -> {
            due("read(0, 1, 2, 2)", twoMen(1, 0, 0, 1, 0, 12, 0).read(0, 1, 2, 2), -21);
        });
        test("38: then none came", () -> {
            SunPointer x = twoMen(1, 1, 0, 2, 1, 3, 7);
            x.shift(1, 1);
            due("read(0, 1, 0, 3)", x.read(0, 1, 0, 3), -22);
            due("rota(1)", x.rota(1), 1);
            due("rota(2)", x.rota(2), NONE);
        });
        test("38: the first met: of two that are BAD", () -> {
            due("read", twoMen(1, 1, 0, 12, 0, 13, 0).read(0, 1, 0, 3), -21);
        });
        test("38: the first met: BAD ahead of what the machine refuses", () -> {
            SunPointer x = twoMen(1, 1, 0, 12, 0);
            due("read(0, 1, 0, 20)", x.read(0, 1, 0, 20), -21);
            due("rota(1)", x.rota(1), NONE);
            due("torn()", x.torn(), 0);
        });
        test("38: the first met: what the machine refuses ahead of BAD", () -> {
            SunPointer x = twoMen(1, 12, 0);
            due("read(0, 1, -1, 2)", x.read(0, 1, -1, 2), 0);
            due("torn()", x.torn(), 2);
            due("read(0, 0, 0, 1)", x.read(0, 0, 0, 1), 0);
            due("torn()", x.torn(), 3);
        });
        test("38: one that is BAD behind n is not met", () -> {
            due("read(0, 1, 0, 1)", twoMen(1, 1, 0, 12, 0).read(0, 1, 0, 1), 1);
        });
    }

    private static void torn() {
        test("39: 0 at first", () -> due("torn()", new SunPointer().torn(), 0));
        test("39: The FAULT of the latest read(); 0", () -> {
            SunPointer x = twoMen(1, 1, 0);
            x.read(2, 1, 0, 1);
            due("torn(), NULL", x.torn(), 1);
            x.read(0, 1, 2, 1);
            due("torn(), INDEX", x.torn(), 2);
            x.read(0, 2, 0, 1);
            due("torn(), CAST", x.torn(), 3);
            due("torn() again", x.torn(), 3);
            x.read(0, 1, 0, 1);
            due("torn(), 0", x.torn(), 0);
        });
        test("39: that came to an end: one that is BAD did not", () -> {
            SunPointer x = twoMen(1, 12, 0);
            x.read(2, 1, 0, 1);
            due("read(4, 1, 0, 1)", x.read(4, 1, 0, 1), BAD);
            due("read(0, 3, 0, 1)", x.read(0, 3, 0, 1), BAD);
            due("read(0, 1, 0, 21)", x.read(0, 1, 0, 21), BAD);
            due("torn()", x.torn(), 1);
            due("read(0, 1, 0, 1)", x.read(0, 1, 0, 1), -20);
            due("torn()", x.torn(), 1);
        });
        test("39: other calls leave it", () -> {
            SunPointer x = twoMen(1, 12, 0);
            x.read(2, 1, 0, 1);
            x.sheet(2, 1, 4);
            x.lay(2, 0, 0);
            x.text();
            x.keep(0);
            x.back(0);
            due("torn()", x.torn(), 1);
        });
    }

    private static void count() {
        test("40: what 0 to 5", () -> {
            SunPointer x = fullTown();
            x.sheet(0, 0, 1);
            each(0, 5, what -> due("count(" + what + ") is taken", x.count(what) >= 0));
            for (int what : new int[] {-1, 6, LEAST, MOST}) {
                due("count(" + what + ")", x.count(what), BAD);
            }
        });
        test("40: with nothing there", () -> {
            SunPointer x = new SunPointer();
            int[] counts = {0, 0, 0, NONE, 0, 0};
            each(0, 5, what -> due("count(" + what + ")", x.count(what), counts[what]));
        });
        test("40: with all full", () -> {
            SunPointer x = told("upright 3;" + EVERY_HOUR + "deed 0 9;".repeat(5));
            each(1, 6, n -> x.see(0, 0));
            x.keep(0);
            x.keep(1);
            feed(x, " ".repeat(161));
            x.sheet(0, 2, 40);
            int[] counts = {6, 2, 160, 40, 45, 48};
            each(0, 5, what -> due("count(" + what + ")", x.count(what), counts[what]));
        });
        test("40: 1 IMAGES: one alone, the first or the second", () -> each(0, 1, k -> {
            SunPointer x = new SunPointer();
            x.keep(k);
            x.keep(k);
            due("count(1)", x.count(1), 1);
        }));
        test("40: 3 CELLS of SHEET 0 (NONE: nothing), not of others", () -> {
            SunPointer x = new SunPointer();
            each(1, 3, k -> x.sheet(k, 0, 9));
            due("count(3)", x.count(3), NONE);
            x.sheet(0, 0, 0);
            due("count(3)", x.count(3), 0);
            x.sheet(0, 0, 40);
            due("count(3)", x.count(3), 40);
        });
        test("40: 4 all WORTH", () -> {
            SunPointer x = new SunPointer();
            x.want(0, 1);
            due("count(4)", x.count(4), 1);
            x.want(0, 9);
            due("count(4)", x.count(4), 10);
            x.drop(1);
            due("count(4)", x.count(4), 1);
        });
        test("40: 5 QUARTERS in which THE SQUARE READS", () -> {
            SunPointer x = told("upright 3;rota 0 0 4 0;cloud 0;cloud 2;cloud 5;");
            due("count(5)", x.count(5), 8);
            x.cloud(1, true);
            x.cloud(3, true);
            due("count(5)", x.count(5), 0);
        });
    }
}
