/** For each promise of the document: ordinary inputs, the edges that it names, wrong inputs. */
public final class PromiseTests {
    private static final int BAD = -1, STATE = -2, FULL = -3, NONE = -4;
    private static final String TOWN = "upright 3;stooped 5;tired 4;lover 3;"
            + "rota 0 0 1 2 2 2 2 4 3 3 0 0;cloud 1;paint 2;deed 9 4;deed 20 2;deed 36 9;";
    private static int wrong = 0;
    private static int checks = 0;

    private static void due(String what, long got, long want) {
        checks++;
        if (got != want) {
            wrong++;
            System.out.println(what + " answered " + got + ", due is " + want);
        }
    }

    private static void feed(SunPointer x, String text) {
        for (int i = 0; i < text.length(); i++) {
            x.feed(text.charAt(i));
        }
    }

    private static SunPointer told(String text) {
        SunPointer x = new SunPointer();
        feed(x, text);
        int lines = x.text();
        if (lines < 0) {
            due("text of " + text, lines, 0);
        }
        return x;
    }

    /** A text with a FAULT at a place: both are told, and what was told before stays. */
    private static void faulty(String text, int fault, int place) {
        SunPointer x = told("lover 2;deed 7 7;");
        x.keep(1);
        x.see(0, 7);
        feed(x, text);
        due("text '" + text + "'", x.text(), -10 - place);
        due("fault of '" + text + "'", x.fault(), fault);
        due("tape behind '" + text + "'", x.count(2), 0);
        due("man behind '" + text + "'", x.man(0, 1), 2);
        due("deed behind '" + text + "'", x.deed(0, 0), 7);
        due("images behind '" + text + "'", x.count(1), 1);
        due("seen behind '" + text + "'", x.count(0), 1);
    }

    private static void good(String text, int lines) {
        SunPointer x = new SunPointer();
        feed(x, text);
        due("text '" + text + "'", x.text(), lines);
        due("fault of '" + text + "'", x.fault(), 0);
    }

    private static String times(int n, String part) {
        return part.repeat(n);
    }

    public static void main(String[] args) {
        newObject();
        feedAndEnd();
        goodTexts();
        textTellsAll();
        faultsOfTokens();
        faultsOfPlaces();
        faultsOfBounds();
        faultsOfTwice();
        faultsOfTooMany();
        faultOfNoMan();
        ruleManRotaDeed();
        alterAndMove();
        shiftCloudPaint();
        wantAndDrop();
        shows();
        lost();
        worst();
        done();
        lean();
        mark();
        give();
        swap();
        sole();
        mean();
        luck();
        seeAndForget();
        leansAndKinds();
        ask();
        drift();
        keepAndBack();
        sheetAndLay();
        read();
        readFaults();
        count();
        System.out.println(checks + " checks, " + wrong + " wrong");
        if (wrong != 0) {
            System.exit(1);
        }
    }

    // Promise 1
    private static void newObject() {
        SunPointer x = new SunPointer();
        due("1 rule(0)", x.rule(0), 0);
        due("1 rule(1)", x.rule(1), 0);
        due("1 rule(2)", x.rule(2), 3);
        due("1 rule(3)", x.rule(3), 0);
        due("1 rule(4)", x.rule(4), 0);
        due("1 rule(5)", x.rule(5), 0);
        due("1 rota(0)", x.rota(0), NONE);
        due("1 rota(11)", x.rota(11), NONE);
        due("1 fault()", x.fault(), 0);
        due("1 torn()", x.torn(), 0);
        due("1 man(0, 0)", x.man(0, 0), BAD);
        due("1 deed(0, 0)", x.deed(0, 0), BAD);
        for (int k = 0; k < 4; k++) {
            due("1 lay(k, 0, 0)", x.lay(k, 0, 0), -11);
        }
        for (int what = 0; what < 6; what++) {
            due("1 count(" + what + ")", x.count(what), what == 3 ? NONE : 0);
        }
        due("1 back(0)", x.back(0), STATE);
    }

    // Promises 2 and 3
    private static void feedAndEnd() {
        SunPointer x = new SunPointer();
        due("2 feed(-1)", x.feed(-1), BAD);
        due("2 feed(128)", x.feed(128), BAD);
        due("2 feed(0)", x.feed(0), 1);
        due("2 feed(127)", x.feed(127), 2);
        due("3 end(3)", x.end(3), BAD);
        due("3 end(-1)", x.end(-1), BAD);
        due("3 end(2)", x.end(2), 2);
        due("3 end(1)", x.end(1), 2);
        due("3 end(0)", x.end(0), 1);
        due("3 end(0)", x.end(0), 0);
        for (int i = 1; i <= 160; i++) {
            due("2 feed(32)", x.feed(32), i);
        }
        due("2 feed(32) when full", x.feed(32), FULL);
        due("2 feed(200) when full", x.feed(200), BAD);
        due("2 count(2)", x.count(2), 160);
        due("3 end(159)", x.end(159), 160);
        due("2 feed(32)", x.feed(32), 160);
        due("4 text() of blanks", x.text(), 0);
        due("2 feed(32)", x.feed(32), 1);
        SunPointer y = new SunPointer();
        feed(y, "paint 1;cloud 4;xyz");
        due("3 end(8)", y.end(8), 19);
        feed(y, "cloud 5;");
        due("3 text()", y.text(), 2);
        due("3 rule(3)", y.rule(3), 1 << 5);
    }

    // Promise 4
    private static void goodTexts() {
        good("", 0);
        good("   ", 0);
        good("rota;", 1);
        good("  upright  06 ;  rota 0 4 0 ;", 2);
        good("upright3;rota0 4 0;deed10 1;", 3);
        good("rota 0;upright 0;", 2);
        good("cloud 0;cloud 11;", 2);
        good("paint 0;", 1);
        good("paint 6;", 1);
        good("deed 0 1;deed 47 9;", 2);
        good("lover 0;lover 6;lover 1;lover 2;rota 0 1 2 3 4 3 2 1 0 1 2 3;", 5);
        good(times(5, "deed 1 1;"), 5);
    }

    // Promises 4 and 5: what is told comes in place of all that there was
    private static void textTellsAll() {
        SunPointer x = told(TOWN);
        x.keep(0);
        x.keep(1);
        x.see(0, 3);
        x.sheet(0, 1, 5);
        x.lay(0, 0, 3);
        x.read(0, 0, 0, 1);
        feed(x, "tired 1;");
        due("4 text()", x.text(), 1);
        due("4 rule(0)", x.rule(0), 1);
        due("4 rule(1)", x.rule(1), 0);
        due("4 rule(2)", x.rule(2), 3);
        due("4 rule(3)", x.rule(3), 0);
        due("4 rule(4)", x.rule(4), 0);
        due("4 count(0)", x.count(0), 0);
        due("4 count(1)", x.count(1), 0);
        due("4 back(0)", x.back(0), STATE);
        due("4 count(3)", x.count(3), 5);
        due("4 torn()", x.torn(), 3);
        SunPointer y = told("deed 4 1;cloud 0;rota 0 0;paint 2;upright 5;");
        due("4 shows(4)", y.shows(4), 5);
        due("4 shows(0)", y.shows(0), NONE);
        due("4 deed(0, 2)", y.deed(0, 2), 4);
        feed(x, "bad");
        due("5 text()", x.text(), -10);
        due("5 fault()", x.fault(), 2);
        due("5 text() of nothing", x.text(), 0);
        due("5 fault()", x.fault(), 0);
        due("5 rule(0)", x.rule(0), 0);
    }

    private static void faultsOfTokens() {
        faulty("A", 1, 0);
        faulty("  ,", 1, 2);
        faulty("paint\t3;", 1, 5);
        faulty("paint -1;", 1, 6);
        faulty("paint 123;", 1, 6);
        faulty("paint 003;", 1, 6);
        faulty("100", 1, 0);
        faulty("paint 7?", 3, 6);
        faulty("paint 1?", 1, 7);
        faulty("paint 1;?", 1, 8);
        faulty("rota " + times(12, "4 ") + "123;", 1, 29);
        faulty("rota " + times(12, "4 ") + "X;", 1, 29);
    }

    private static void faultsOfPlaces() {
        faulty(";", 2, 0);
        faulty("7;", 2, 0);
        faulty("judge 1;", 2, 0);
        faulty("rot;", 2, 0);
        faulty("rotas;", 2, 0);
        faulty("paint;", 2, 5);
        faulty("paint cloud;", 2, 6);
        faulty("paint", 2, 5);
        faulty("paint   ", 2, 8);
        faulty("paint 1", 2, 7);
        faulty("paint 1 2;", 2, 8);
        faulty("paint 1 cloud 1;", 2, 8);
        faulty("deed 1;", 2, 6);
        faulty("deed 1 1", 2, 8);
        faulty("deed 1 1 1;", 2, 9);
        faulty("lover lover;", 2, 6);
        faulty("cloud 1 2;", 2, 8);
        faulty("rota 1 a;", 2, 7);
        faulty("rota 1", 2, 6);
        faulty("rota" + times(11, "4 ") + "4", 2, 27);
        faulty("rota " + times(12, "4 "), 2, 29);
        faulty("rota " + times(12, "4 ") + "  ", 2, 31);
    }

    private static void faultsOfBounds() {
        faulty("upright 7;", 3, 8);
        faulty("tired 99;", 3, 6);
        faulty("rota 4 5;", 3, 7);
        faulty("cloud 12;", 3, 6);
        faulty("paint 07;", 3, 6);
        faulty("deed 48 0;", 3, 5);
        faulty("deed 47 0;", 3, 8);
        faulty("deed 47 10;", 3, 8);
    }

    private static void faultsOfTwice() {
        faulty("rota;rota;", 4, 5);
        faulty("rota; rota ?", 4, 6);
        faulty("paint 1;paint ?", 4, 8);
        faulty("cloud 3;cloud 03;", 4, 14);
        faulty("cloud 3;cloud 3?", 4, 14);
    }

    private static void faultsOfTooMany() {
        faulty(times(4, "lover 1;") + "tired 9;", 5, 32);
        faulty(times(5, "deed 1 1;") + " deed", 5, 46);
        faulty("rota " + times(13, "4 ") + ";", 5, 29);
        faulty("rota " + times(12, "4 ") + "9;", 5, 29);
        faulty("rota " + times(12, "4 ") + "cloud;", 5, 29);
    }

    private static void faultOfNoMan() {
        faulty("rota 0;", 6, 7);
        faulty("rota 0;  ", 6, 9);
        faulty("lover 1;rota 0 1;", 6, 17);
        faulty("rota 3;lover 1;lover 1;lover 1; ?", 1, 32);
    }

    // Promises 6 to 9
    private static void ruleManRotaDeed() {
        SunPointer x = told(TOWN);
        int[] rules = {4, 3, 2, 2, 3967, 22};
        for (int what = 0; what < 6; what++) {
            due("6 rule(" + what + ")", x.rule(what), rules[what]);
        }
        due("6 rule(-1)", x.rule(-1), BAD);
        due("6 rule(6)", x.rule(6), BAD);
        due("7 man(2, 0)", x.man(2, 0), 2);
        due("7 man(2, 1)", x.man(2, 1), 4);
        due("7 man(2, 2)", x.man(2, 2), 120);
        due("7 man(2, 3)", x.man(2, 3), 15);
        due("7 man(0, 3)", x.man(0, 3), 7);
        due("7 man(4, 0)", x.man(4, 0), BAD);
        due("7 man(-1, 0)", x.man(-1, 0), BAD);
        due("7 man(0, 4)", x.man(0, 4), BAD);
        due("7 man(0, -1)", x.man(0, -1), BAD);
        x.shift(2, NONE);
        due("7 man(1, 2)", x.man(1, 2), 0);
        due("7 man(1, 3)", x.man(1, 3), NONE);
        due("8 rota(7)", x.rota(7), NONE);
        due("8 rota(9)", x.rota(9), 3);
        due("8 rota(12)", x.rota(12), BAD);
        due("8 rota(-1)", x.rota(-1), BAD);
        SunPointer y = told(TOWN);
        due("9 deed(1, 0)", y.deed(1, 0), 20);
        due("9 deed(1, 1)", y.deed(1, 1), 2);
        due("9 deed(1, 2)", y.deed(1, 2), 22);
        due("9 deed(1, 3)", y.deed(1, 3), 4);
        due("9 deed(3, 0)", y.deed(3, 0), BAD);
        due("9 deed(-1, 0)", y.deed(-1, 0), BAD);
        due("9 deed(0, 4)", y.deed(0, 4), BAD);
        y.want(47, 5);
        due("9 deed(3, 2)", y.deed(3, 2), NONE);
        due("9 deed(3, 3)", y.deed(3, 3), 240);
        due("6 rule(5)", y.rule(5), 262);
    }

    // Promises 10 and 11
    private static void alterAndMove() {
        SunPointer x = told(TOWN);
        due("10 alter(0, 0, 3)", x.alter(0, 0, 3), 0);
        due("10 man(0, 0)", x.man(0, 0), 3);
        due("10 alter(3, 1, 6)", x.alter(3, 1, 6), 3);
        due("10 alter(3, 1, 0)", x.alter(3, 1, 0), 6);
        due("10 alter(3, 1, 7)", x.alter(3, 1, 7), BAD);
        due("10 alter(3, 1, -1)", x.alter(3, 1, -1), BAD);
        due("10 alter(3, 0, 4)", x.alter(3, 0, 4), BAD);
        due("10 alter(3, 2, 0)", x.alter(3, 2, 0), BAD);
        due("10 alter(4, 0, 0)", x.alter(4, 0, 0), BAD);
        due("10 man(3, 1)", x.man(3, 1), 0);
        due("11 move(2, 0, 47)", x.move(2, 0, 47), 36);
        due("11 move(2, 0, 0)", x.move(2, 0, 0), 47);
        due("11 move(2, 0, 48)", x.move(2, 0, 48), BAD);
        due("11 move(2, 0, -1)", x.move(2, 0, -1), BAD);
        due("11 move(2, 1, 1)", x.move(2, 1, 1), 9);
        due("11 move(2, 1, 9)", x.move(2, 1, 9), 1);
        due("11 move(2, 1, 0)", x.move(2, 1, 0), BAD);
        due("11 move(2, 1, 10)", x.move(2, 1, 10), BAD);
        due("11 move(2, 2, 1)", x.move(2, 2, 1), BAD);
        due("11 move(3, 0, 1)", x.move(3, 0, 1), BAD);
        due("11 deed(2, 0)", x.deed(2, 0), 0);
        due("11 deed(2, 1)", x.deed(2, 1), 9);
    }

    // Promises 12, 13 and 14
    private static void shiftCloudPaint() {
        SunPointer x = told(TOWN);
        due("12 shift(7, 3)", x.shift(7, 3), NONE);
        due("12 man(3, 3)", x.man(3, 3), 11);
        due("12 shift(7, NONE)", x.shift(7, NONE), 3);
        due("12 shift(12, 0)", x.shift(12, 0), BAD);
        due("12 shift(-1, 0)", x.shift(-1, 0), BAD);
        due("12 shift(0, 4)", x.shift(0, 4), BAD);
        due("12 shift(0, -1)", x.shift(0, -1), BAD);
        due("12 rota(0)", x.rota(0), 0);
        due("13 cloud(1, true)", x.cloud(1, true), 1);
        due("13 cloud(1, false)", x.cloud(1, false), 1);
        due("13 cloud(11, true)", x.cloud(11, true), 0);
        due("13 cloud(12, true)", x.cloud(12, true), BAD);
        due("13 cloud(-1, false)", x.cloud(-1, false), BAD);
        due("13 rule(3)", x.rule(3), 1 << 11);
        due("14 paint(0)", x.paint(0), 2);
        due("14 paint(6)", x.paint(6), 0);
        due("14 paint(7)", x.paint(7), BAD);
        due("14 paint(-1)", x.paint(-1), BAD);
        due("14 rule(2)", x.rule(2), 6);
        due("14 shows(12)", x.shows(12), 15);
    }

    // Promises 15 and 16
    private static void wantAndDrop() {
        SunPointer x = new SunPointer();
        due("15 want(48, 1)", x.want(48, 1), BAD);
        due("15 want(-1, 1)", x.want(-1, 1), BAD);
        due("15 want(0, 0)", x.want(0, 0), BAD);
        due("15 want(0, 10)", x.want(0, 10), BAD);
        for (int i = 1; i <= 5; i++) {
            due("15 want(i, i)", x.want(i, i), i);
        }
        due("15 want(47, 9)", x.want(47, 9), FULL);
        due("15 want(48, 9)", x.want(48, 9), BAD);
        due("15 rule(5)", x.rule(5), 15 * 48);
        due("16 drop(6)", x.drop(6), BAD);
        due("16 drop(-1)", x.drop(-1), BAD);
        due("16 drop(5)", x.drop(5), 5);
        due("16 drop(2)", x.drop(2), 5);
        due("16 drop(3)", x.drop(3), BAD);
        due("16 deed(1, 0)", x.deed(1, 0), 2);
        due("16 deed(2, 0)", x.deed(2, 0), BAD);
        due("16 drop(0)", x.drop(0), 2);
        due("16 want(0, 9)", x.want(0, 9), 1);
    }

    // Promise 17: each KIND, CLOUDS, nobody, the ends of the face
    private static void shows() {
        SunPointer x = told("tired 3;lover 3;stooped 3;rota 0 0 0 0 0 1 1 2 4 0 0 0;");
        int[] want = {
            0, 0, 1, 2, 3, 4, 5, 6, 6, 7, 8, 9, 10, 11, 12, 13, 13, 14, 15, 16,
            19, 20, 21, 22, 25, 26, 27, 28, 27, 28, 29, 30,
            NONE, NONE, NONE, NONE, 35, 36, 37, 38, 39, 40, 41, 42, 42, 43, 44, 45};
        for (int q = 0; q < 48; q++) {
            due("17 shows(" + q + ")", x.shows(q), want[q]);
        }
        due("17 shows(48)", x.shows(48), BAD);
        due("17 shows(-1)", x.shows(-1), BAD);
        // CLOUDS hide what is read, but he goes on to stand under them.
        x.cloud(1, true);
        due("17 shows(4)", x.shows(4), NONE);
        due("17 shows(7)", x.shows(7), NONE);
        due("17 shows(8)", x.shows(8), 6);
        SunPointer y = told("upright 6;paint 6;rota 0 0 0 0 0 0 0 0 0 0 0 0;");
        due("17 shows(0)", y.shows(0), 6);
        due("17 shows(41)", y.shows(41), 47);
        due("17 shows(47)", y.shows(47), 47);
        y.alter(0, 1, 0);
        y.paint(0);
        due("17 shows(5)", y.shows(5), 0);
        due("17 shows(6)", y.shows(6), 0);
        due("17 shows(7)", y.shows(7), 1);
    }

    // Promise 18
    private static void lost() {
        SunPointer x = told("lover 3;rota 0 0 0 0 4 4 4 4 4 4 4 4;");
        due("18 lost(0)", x.lost(0), 2);
        due("18 lost(1)", x.lost(1), 4);
        due("18 lost(2)", x.lost(2), BAD);
        due("18 lost(-1)", x.lost(-1), BAD);
        x.cloud(1, true);
        due("18 lost(0) under clouds", x.lost(0), 1);
        due("18 lost(1) under clouds", x.lost(1), 12);
        SunPointer y = told("upright 6;upright 0;paint 6;rota 0 4 1 1;");
        // 9 is read in QUARTER 3; 8 in QUARTER 8, behind an HOUR without a reading.
        due("18 shows(8)", y.shows(8), 8);
        due("18 lost(0)", y.lost(0), 1);
        due("18 lost(1)", y.lost(1), 8);
        y.alter(1, 1, 1);
        due("18 lost(0), the same again is not back", y.lost(0), 0);
        y.shift(2, NONE);
        due("18 lost(0)", y.lost(0), 0);
        due("18 lost(1)", y.lost(1), NONE);
    }

    // Promise 19
    private static void worst() {
        SunPointer x = told("tired 3;rota 0 0 0 0 0 0 0 0 0 0 0 0;");
        due("19 worst(0)", x.worst(0), 6);
        due("19 worst(1)", x.worst(1), 40);
        due("19 worst(2)", x.worst(2), BAD);
        x.paint(6);
        due("19 worst(0)", x.worst(0), 3);
        due("19 worst(1)", x.worst(1), 40);
        SunPointer y = told("upright 3;rota 4 0;");
        due("19 worst(0)", y.worst(0), 0);
        due("19 worst(1)", y.worst(1), 4);
        y.cloud(1, true);
        due("19 worst(0)", y.worst(0), NONE);
        due("19 worst(1)", y.worst(1), NONE);
        due("19 worst(-1)", y.worst(-1), BAD);
    }

    // Promise 20
    private static void done() {
        SunPointer x = told("upright 5;upright 1;rota 0 4 1;deed 4 1;deed 2 1;deed 9 1;deed 6 1;deed 0 1;");
        // QUARTERS 0 to 3 read 2 to 5, QUARTERS 8 to 11 read 6 to 9.
        due("20 done(0)", x.done(0), 1 | 2);
        due("20 done(1)", x.done(1), 16);
        due("20 done(2)", x.done(2), 4 | 8);
        due("20 done(3)", x.done(3), 0);
        due("20 done(4)", x.done(4), BAD);
        due("20 done(-1)", x.done(-1), BAD);
        x.shift(2, NONE);
        due("20 done(2)", x.done(2), 0);
        due("20 done(3)", x.done(3), 4 | 8);
    }

    // Promise 21
    private static void lean() {
        SunPointer x = told("upright 0;rota 0 0 0 0;deed 8 1;deed 40 1;");
        due("21 lean(0, 0, 8)", x.lean(0, 0, 8), 3);
        due("21 lean(0, 0, 47)", x.lean(0, 0, 47), 3);
        due("21 lean(0, 0, 7)", x.lean(0, 0, 7), 4);
        due("21 lean(0, 0, 5)", x.lean(0, 0, 5), 6);
        due("21 lean(0, 0, 4)", x.lean(0, 0, 4), NONE);
        due("21 lean(0, 1, 47)", x.lean(0, 1, 47), NONE);
        due("21 man(0, 1)", x.man(0, 1), 0);
        due("21 lean(1, 0, 8)", x.lean(1, 0, 8), BAD);
        due("21 lean(0, 2, 8)", x.lean(0, 2, 8), BAD);
        due("21 lean(0, 0, 48)", x.lean(0, 0, 48), BAD);
        due("21 lean(0, 0, NONE)", x.lean(0, 0, NONE), BAD);
    }

    // Promise 22
    private static void mark() {
        SunPointer x = told("stooped 2;rota 0 0 0 0;deed 8 2;");
        due("22 mark(0)", x.mark(0), 5);
        due("22 mark(1)", x.mark(1), 0);
        due("22 rule(2)", x.rule(2), 3);
        due("22 mark(2)", x.mark(2), BAD);
        due("22 mark(-1)", x.mark(-1), BAD);
        x.shift(2, NONE);
        x.shift(3, NONE);
        // 7 is the last QUARTER that reads: with PAINT 6 it is done one too early, else never.
        due("22 mark(0)", x.mark(0), 6);
        due("22 mark(1)", x.mark(1), 2);
        x.move(0, 0, 40);
        due("22 mark(0) of several", x.mark(0), 0);
        due("22 mark(1) of several", x.mark(1), 96);
    }

    // Promise 23
    private static void give() {
        SunPointer x = told("upright 0;upright 3;rota 0 0 0 0;deed 5 2;deed 10 1;");
        // DONE in 8 and 13: HARM 6 + 3. With the second MAN in HOUR 1: 5 and 13. In HOUR 2: 8, 10.
        due("23 rule(5)", x.rule(5), 9);
        due("23 give(0)", x.give(0), 11);
        due("23 give(1)", x.give(1), 3);
        due("23 rota(1)", x.rota(1), 0);
        x.shift(1, 1);
        due("23 give(0)", x.give(0), 21);
        due("23 give(1)", x.give(1), 0);
        x.shift(2, 1);
        due("23 give(0)", x.give(0), NONE);
        due("23 give(1)", x.give(1), NONE);
        due("23 give(2)", x.give(2), BAD);
        SunPointer y = told("upright 3;upright 3;deed 4 1;");
        due("23 give(0) of several", y.give(0), 10);
        SunPointer z = told("deed 4 1;");
        due("23 give(0) without men", z.give(0), NONE);
    }

    // Promise 24
    private static void swap() {
        SunPointer x = told("upright 3;rota 0 4 4 0;deed 5 1;");
        due("24 rule(5)", x.rule(5), 7);
        due("24 swap(0)", x.swap(0), 1);
        due("24 swap(1)", x.swap(1), 0);
        due("24 rota(1)", x.rota(1), NONE);
        x.shift(0, NONE);
        due("24 swap(0)", x.swap(0), 103);
        due("24 swap(1)", x.swap(1), 0);
        x.move(0, 0, 12);
        due("24 swap(0)", x.swap(0), NONE);
        due("24 swap(1)", x.swap(1), NONE);
        due("24 swap(2)", x.swap(2), BAD);
        due("24 swap(-1)", x.swap(-1), BAD);
    }

    // Promise 25
    private static void sole() {
        SunPointer x = told("upright 0;upright 2;upright 4;upright 2;deed 20 3;");
        due("25 sole(0)", x.sole(0), 1);
        due("25 sole(1)", x.sole(1), 3);
        due("25 rule(4)", x.rule(4), 0);
        x.alter(3, 1, 3);
        due("25 sole(0)", x.sole(0), 3);
        due("25 sole(1)", x.sole(1), 0);
        x.cloud(5, true);
        // CLOUDS stay: DONE in 24, but by the third MAN in 19.
        due("25 sole(0) under clouds", x.sole(0), 2);
        due("25 sole(1) under clouds", x.sole(1), 3);
        due("25 sole(2)", x.sole(2), BAD);
        SunPointer y = told("deed 20 3;");
        due("25 sole(0) without men", y.sole(0), NONE);
        due("25 sole(1) without men", y.sole(1), NONE);
        due("25 sole(2) without men", y.sole(2), BAD);
    }

    // Promise 26
    private static void mean() {
        SunPointer x = told("upright 3;rota 0 0 0;deed 5 2;");
        // DONE in 5 by 6/10, in 8 by 4/10 * 6/10 (HARM 6), never by 16/100 (HARM 96).
        due("26 mean(4, 0)", x.mean(4, 0), 84);
        due("26 mean(4, 1)", x.mean(4, 1), 5);
        due("26 mean(0, 0)", x.mean(0, 0), 0);
        due("26 mean(0, 1)", x.mean(0, 1), 1);
        due("26 mean(10, 0)", x.mean(10, 0), 96);
        due("26 mean(10, 1)", x.mean(10, 1), 1);
        x.cloud(1, true);
        due("26 mean(5, 0)", x.mean(5, 0), 51);
        due("26 mean(5, 1)", x.mean(5, 1), 1);
        due("26 mean(11, 0)", x.mean(11, 0), BAD);
        due("26 mean(-1, 0)", x.mean(-1, 0), BAD);
        due("26 mean(5, 2)", x.mean(5, 2), BAD);
        due("26 rule(3)", x.rule(3), 2);
        SunPointer y = told("upright 3;rota 0;");
        due("26 mean(5, 1) without deeds", y.mean(5, 1), 1);
        SunPointer z = told(TOWN);
        due("26 mean(3, 0)", z.mean(3, 0), 12257957119L);
        due("26 mean(3, 1)", z.mean(3, 1), 250000000L);
    }

    // Promise 27
    private static void luck() {
        SunPointer x = told("upright 3;rota 0 0 0;deed 5 2;deed 40 1;");
        due("27 luck(4, 0, 0)", x.luck(4, 0, 0), 21);
        due("27 luck(4, 0, 1)", x.luck(4, 0, 1), 25);
        due("27 luck(0, 0, 0)", x.luck(0, 0, 0), 1);
        due("27 luck(0, 0, 1)", x.luck(0, 0, 1), 1);
        due("27 luck(10, 0, 0)", x.luck(10, 0, 0), 0);
        due("27 luck(10, 0, 1)", x.luck(10, 0, 1), 1);
        due("27 luck(4, 1, 0)", x.luck(4, 1, 0), 0);
        due("27 luck(4, 1, 1)", x.luck(4, 1, 1), 1);
        due("27 luck(4, 2, 0)", x.luck(4, 2, 0), BAD);
        due("27 luck(11, 0, 0)", x.luck(11, 0, 0), BAD);
        due("27 luck(-1, 0, 0)", x.luck(-1, 0, 0), BAD);
        due("27 luck(4, 0, 2)", x.luck(4, 0, 2), BAD);
        SunPointer y = told("upright 3;rota 0 0 0 0 0 0 0 0 0 0 0 0;deed 0 1;");
        due("27 luck(9, 0, 0)", y.luck(9, 0, 0), 1000000000000L - 282429536481L);
        due("27 luck(9, 0, 1)", y.luck(9, 0, 1), 1000000000000L);
    }

    // Promises 28 and 29
    private static void seeAndForget() {
        SunPointer x = told("upright 3;deed 5 2;");
        due("28 see(1, 0)", x.see(1, 0), BAD);
        due("28 see(0, 48)", x.see(0, 48), BAD);
        due("28 see(0, -1)", x.see(0, -1), BAD);
        due("28 see(0, NONE)", x.see(0, NONE), 1);
        for (int n = 2; n <= 6; n++) {
            due("28 see(0, 47)", x.see(0, 47), n);
        }
        due("28 see(0, 0)", x.see(0, 0), FULL);
        due("28 see(1, 0)", x.see(1, 0), BAD);
        due("29 forget(7)", x.forget(7), BAD);
        due("29 forget(-1)", x.forget(-1), BAD);
        due("29 forget(1)", x.forget(1), 6);
        due("29 forget(2)", x.forget(2), BAD);
        due("29 leans(0)", x.leans(0), 127);
        due("29 forget(0)", x.forget(0), 1);
        due("29 forget(0)", x.forget(0), 0);
    }

    // Promises 30 and 31
    private static void leansAndKinds() {
        SunPointer x = told("upright 3;lover 3;rota 0 0 0 0 1 1;deed 5 1;deed 18 1;deed 47 1;");
        due("30 leans(0)", x.leans(0), 127);
        due("31 kinds(1)", x.kinds(1), 15);
        x.see(0, 6);
        due("30 leans(0)", x.leans(0), 1 << 2);
        due("30 leans(1)", x.leans(1), 0);
        due("31 kinds(0)", x.kinds(0), 1 << 1 | 1 << 2 | 1 << 3);
        x.forget(0);
        x.see(1, 17);
        due("30 leans(1)", x.leans(1), 1 << 3);
        due("31 kinds(1)", x.kinds(1), 1 << 3);
        x.see(2, NONE);
        due("30 leans(1)", x.leans(1), 1 << 3);
        x.drop(2);
        due("30 leans(1) of a deed that is gone", x.leans(1), 0);
        due("31 kinds(1) of a deed that is gone", x.kinds(1), 0);
        x.want(47, 1);
        due("30 leans(1) of a deed that is there again", x.leans(1), 1 << 3);
        due("30 leans(2)", x.leans(2), BAD);
        due("30 leans(-1)", x.leans(-1), BAD);
        due("31 kinds(2)", x.kinds(2), BAD);
        due("31 kinds(-1)", x.kinds(-1), BAD);
        due("30 man(1, 1)", x.man(1, 1), 3);
        due("31 man(1, 0)", x.man(1, 0), 3);
    }

    // Promise 32
    private static void ask() {
        SunPointer x = told("upright 3;rota 4 0 0;deed 47 1;deed 4 1;deed 7 1;");
        // DEED 0: never by all. DEED 1: in 4 by LEANS 3 to 6, then 5, 6, 7. DEED 2: in 4 by 6 alone.
        due("32 ask(0, 0)", x.ask(0, 0), 2);
        due("32 ask(0, 1)", x.ask(0, 1), 1);
        x.drop(2);
        due("32 ask(0, 0)", x.ask(0, 0), 1);
        due("32 ask(0, 1)", x.ask(0, 1), 4);
        x.see(1, 4);
        due("32 ask(0, 0)", x.ask(0, 0), NONE);
        due("32 ask(0, 1)", x.ask(0, 1), NONE);
        x.want(7, 1);
        due("32 ask(0, 0)", x.ask(0, 0), 2);
        due("32 ask(0, 1)", x.ask(0, 1), 1);
        x.want(8, 1);
        due("32 ask(0, 0) the first", x.ask(0, 0), 2);
        due("32 ask(1, 0)", x.ask(1, 0), BAD);
        due("32 ask(0, 2)", x.ask(0, 2), BAD);
        due("32 ask(0, -1)", x.ask(0, -1), BAD);
    }

    // Promise 33
    private static void drift() {
        SunPointer x = told("upright 3;deed 0 1;");
        due("33 drift(1, 0, 0)", x.drift(1, 0, 0), BAD);
        due("33 drift(1, 41, 0)", x.drift(1, 41, 0), BAD);
        due("33 drift(1, 1, 2)", x.drift(1, 1, 2), BAD);
        int[] seeds = {0, 1, -1, 7, 12345, Integer.MAX_VALUE, Integer.MIN_VALUE};
        for (int seed : seeds) {
            boolean[] stands = new boolean[12];
            long next = seed;
            int sum = 0;
            for (int t = 0; t < 40; t++) {
                next = (int) (next * 1103515245L + 12345L);
                int hour = (int) ((next & 0x7FFFFFFFL) / 65536 % 12);
                next = (int) (next * 1103515245L + 12345L);
                stands[hour] = (next & 0x7FFFFFFFL) / 65536 % 2 == 0;
                int first = 0;
                int bits = 0;
                while (first < 12 && !stands[first]) {
                    first++;
                }
                for (int h = 0; h < 12; h++) {
                    bits |= stands[h] ? 1 << h : 0;
                }
                sum += first == 12 ? 48 : 4 * first;
                due("33 drift(" + seed + ", " + (t + 1) + ", 0)", x.drift(seed, t + 1, 0), sum);
                due("33 drift(" + seed + ", " + (t + 1) + ", 1)", x.drift(seed, t + 1, 1), bits);
            }
            x = told("upright 3;deed 0 1;");
        }
        due("33 rule(4)", x.rule(4), 0);
        SunPointer y = told("deed 0 1;");
        due("33 drift(1, 1, 0) without men", y.drift(1, 1, 0), STATE);
        due("33 drift(1, 0, 0) without men", y.drift(1, 0, 0), BAD);
    }

    // Promises 34 and 35
    private static void keepAndBack() {
        SunPointer x = told(TOWN);
        due("34 keep(2)", x.keep(2), BAD);
        due("34 keep(-1)", x.keep(-1), BAD);
        due("35 back(2)", x.back(2), BAD);
        due("35 back(-1)", x.back(-1), BAD);
        due("35 back(1)", x.back(1), STATE);
        due("34 keep(1)", x.keep(1), 0);
        due("35 back(0)", x.back(0), STATE);
        x.alter(0, 0, 1);
        x.alter(0, 1, 0);
        x.shift(0, 3);
        x.cloud(1, false);
        x.paint(6);
        x.move(0, 0, 1);
        x.move(0, 1, 1);
        x.drop(1);
        x.see(0, 5);
        due("34 keep(0)", x.keep(0), 0);
        due("34 keep(0)", x.keep(0), 1);
        due("34 count(1)", x.count(1), 2);
        due("35 back(1)", x.back(1), 22);
        due("35 man(0, 0)", x.man(0, 0), 0);
        due("35 man(0, 1)", x.man(0, 1), 3);
        due("35 rota(0)", x.rota(0), 0);
        due("35 rule(3)", x.rule(3), 2);
        due("35 rule(2)", x.rule(2), 2);
        due("35 rule(1)", x.rule(1), 3);
        due("35 deed(0, 0)", x.deed(0, 0), 9);
        due("35 deed(0, 1)", x.deed(0, 1), 4);
        due("35 count(0)", x.count(0), 1);
        x.paint(0);
        due("35 back(1) again", x.back(1), 22);
        due("35 rule(2) again", x.rule(2), 2);
        x.back(0);
        due("35 rule(1) of the other", x.rule(1), 1);
        due("35 rota(0) of the other", x.rota(0), 3);
    }

    // Promises 36 and 37
    private static void sheetAndLay() {
        SunPointer x = told("upright 3;");
        due("36 sheet(4, 0, 1)", x.sheet(4, 0, 1), BAD);
        due("36 sheet(-1, 0, 1)", x.sheet(-1, 0, 1), BAD);
        due("36 sheet(0, 3, 1)", x.sheet(0, 3, 1), BAD);
        due("36 sheet(0, -1, 1)", x.sheet(0, -1, 1), BAD);
        due("36 sheet(0, 0, 41)", x.sheet(0, 0, 41), BAD);
        due("36 sheet(0, 0, -1)", x.sheet(0, 0, -1), -14);
        due("36 sheet(0, 3, -1)", x.sheet(0, 3, -1), BAD);
        due("36 count(3)", x.count(3), NONE);
        due("36 sheet(0, 0, 0)", x.sheet(0, 0, 0), 1);
        due("36 count(3)", x.count(3), 0);
        due("36 sheet(0, 0, 40)", x.sheet(0, 0, 40), 1);
        due("36 sheet(0, 0, -1)", x.sheet(0, 0, -1), -14);
        due("36 count(3)", x.count(3), 40);
        due("37 lay(4, 0, 0)", x.lay(4, 0, 0), BAD);
        due("37 lay(-1, 0, 0)", x.lay(-1, 0, 0), BAD);
        due("37 lay(1, 0, 0)", x.lay(1, 0, 0), -11);
        due("37 lay(1, 99, 0)", x.lay(1, 99, 0), -11);
        due("37 lay(0, 40, 0)", x.lay(0, 40, 0), -12);
        due("37 lay(0, -1, 0)", x.lay(0, -1, 0), -12);
        due("37 lay(0, 39, 0)", x.lay(0, 39, 0), 1);
        // The lowest bits: 256 + 5 is HOUR 5 as a byte, 65536 + 6 HOUR 6 as a short, 252 NONE as a byte.
        due("37 lay(0, 0, 261)", x.lay(0, 0, 261), 1);
        due("37 read of a byte", x.read(0, 0, 0, 1), 1);
        due("37 rota(5)", x.rota(5), 0);
        x.lay(0, 1, 252);
        due("37 read of NONE as a byte", x.read(0, 0, 0, 1), 1);
        due("37 rota(5)", x.rota(5), NONE);
        x.sheet(1, 1, 2);
        x.lay(1, 0, 65542);
        due("37 read of a short", x.read(1, 1, 0, 1), 1);
        due("37 rota(6)", x.rota(6), 0);
        x.lay(1, 0, 261);
        due("37 read of 261 as a short", x.read(1, 1, 0, 1), -20);
        x.sheet(2, 2, 2);
        x.lay(2, 0, 65542);
        due("37 read of 65542 as an int", x.read(2, 2, 0, 1), -20);
        x.lay(2, 0, 3);
        due("36 sheet anew", x.sheet(2, 2, 2), 1);
        due("36 read of what is new", x.read(2, 2, 0, 1), 1);
        due("36 rota(0)", x.rota(0), 0);
        due("36 rota(3)", x.rota(3), NONE);
    }

    private static void lay(SunPointer x, int k, int... cells) {
        for (int i = 0; i < cells.length; i++) {
            due("lay", x.lay(k, i, cells[i]), 1);
        }
    }

    // Promise 38
    private static void read() {
        SunPointer x = told("upright 3;lover 3;deed 5 1;");
        x.sheet(0, 1, 9);
        lay(x, 0, 0, 0, 3, 1, 3, 0, 11, NONE, 7);
        due("38 read(4, 1, 0, 1)", x.read(4, 1, 0, 1), BAD);
        due("38 read(-1, 1, 0, 1)", x.read(-1, 1, 0, 1), BAD);
        due("38 read(0, 3, 0, 1)", x.read(0, 3, 0, 1), BAD);
        due("38 read(0, -1, 0, 1)", x.read(0, -1, 0, 1), BAD);
        due("38 read(0, 1, 0, 21)", x.read(0, 1, 0, 21), BAD);
        due("38 read(0, 1, 0, -1)", x.read(0, 1, 0, -1), BAD);
        due("38 read(0, 1, 0, 0)", x.read(0, 1, 0, 0), 0);
        due("38 rule(4)", x.rule(4), 0);
        due("38 read(0, 1, 0, 2)", x.read(0, 1, 0, 2), 2);
        due("38 rota(3)", x.rota(3), 1);
        due("38 read(0, 1, 2, 2)", x.read(0, 1, 2, 2), 2);
        due("38 rota(3), the later", x.rota(3), 0);
        x.shift(11, 1);
        due("38 read(0, 1, 0, 20)", x.read(0, 1, 0, 20), 4);
        due("38 torn()", x.torn(), 2);
        due("38 rota(11)", x.rota(11), NONE);
        SunPointer y = told("upright 3;");
        y.sheet(3, 2, 40);
        due("38 read(3, 2, 0, 20)", y.read(3, 2, 0, 20), 20);
        due("38 torn()", y.torn(), 0);
        due("38 read(3, 2, 38, 1)", y.read(3, 2, 38, 1), 1);
        due("38 read(3, 2, 39, 1)", y.read(3, 2, 39, 1), 0);
        due("39 torn()", y.torn(), 2);
    }

    // Promises 38 and 39: which is met first, BAD or what the machine refuses
    private static void readFaults() {
        SunPointer x = told("upright 3;");
        due("38 read of nothing", x.read(0, 2, 0, 1), 0);
        due("39 torn() NULL", x.torn(), 1);
        x.sheet(0, 2, 5);
        lay(x, 0, 1, 0, 12, 0, 13);
        due("38 read of another lane", x.read(0, 1, 99, 1), 0);
        due("39 torn() CAST", x.torn(), 3);
        due("38 BAD is met first", x.read(0, 2, 0, 3), -21);
        due("39 torn() stays", x.torn(), 3);
        due("38 none came", x.rota(1), NONE);
        due("38 BAD in its number", x.read(0, 2, 0, 99), BAD);
        due("39 torn() stays", x.torn(), 3);
        due("38 a torn one is not whole", x.read(0, 2, 4, 1), 0);
        due("39 torn() INDEX", x.torn(), 2);
        due("38 read(0, 2, 0, 1)", x.read(0, 2, 0, 1), 1);
        due("39 torn() 0", x.torn(), 0);
        x.lay(0, 2, 2);
        due("38 those ahead came", x.read(0, 2, 0, 3), 2);
        due("39 torn() INDEX", x.torn(), 2);
        due("38 rota(2)", x.rota(2), 0);
        x.lay(0, 1, 1);
        due("38 no such man", x.read(0, 2, 0, 1), -20);
        x.lay(0, 1, -1);
        due("38 no such man", x.read(0, 2, 0, 1), -20);
        int[] far = {-1, -2, -40, 5, 6, Integer.MAX_VALUE, Integer.MAX_VALUE - 1, Integer.MIN_VALUE};
        for (int f : far) {
            due("38 read(0, 2, " + f + ", 20)", x.read(0, 2, f, 20), 0);
            due("39 torn()", x.torn(), 2);
        }
        due("38 nothing to read", x.read(0, 2, -5, 0), 0);
        due("39 torn() 0", x.torn(), 0);
    }

    // Promise 40
    private static void count() {
        SunPointer x = told(TOWN);
        x.see(0, 1);
        x.see(0, 2);
        x.keep(1);
        x.feed(32);
        x.sheet(0, 0, 7);
        int[] want = {2, 1, 1, 7, 15, 40};
        for (int what = 0; what < 6; what++) {
            due("40 count(" + what + ")", x.count(what), want[what]);
        }
        due("40 count(6)", x.count(6), BAD);
        due("40 count(-1)", x.count(-1), BAD);
    }
}
