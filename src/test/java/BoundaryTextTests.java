/** THE TAPE, its TOKENS, its lines and its FAULTS: for each sentence that names a bound, a test. */
public final class BoundaryTextTests extends Checks {
    private static final String TWELVE = "rota " + "4 ".repeat(12);
    private static final String[] NAMES = {"upright", "stooped", "tired", "lover", "rota", "cloud", "paint", "deed"};

    public static void main(String[] args) {
        tape();
        tokens();
        lines();
        faultOne();
        faultTwo();
        faultThree();
        faultFour();
        faultFive();
        faultSix();
        firstMet();
        taken();
        finish();
    }

    private static void good(String text, int lines) {
        SunPointer x = new SunPointer();
        feed(x, text);
        due("text of '" + text + "'", x.text(), lines);
        due("fault of '" + text + "'", x.fault(), 0);
    }

    private static void faulty(String text, int fault, int place) {
        SunPointer x = new SunPointer();
        feed(x, text);
        due("text of '" + text + "'", x.text(), -10 - place);
        due("fault of '" + text + "'", x.fault(), fault);
    }

    // ---- THE TAPE

    private static void tape() {
        test("THE TAPE has 160 bytes", () -> {
            SunPointer x = new SunPointer();
            each(1, 160, n -> due("feed for the " + n + ". time", x.feed(32), n));
            due("feed for the 161st time", x.feed(32), FULL);
            due("count(2)", x.count(2), 160);
        });
        test("THE TAPE: all of its 160 bytes are read", () -> {
            String lines = "upright 3;paint 5;";
            good(lines + " ".repeat(160 - lines.length()), 2);
            good(" ".repeat(160 - lines.length()) + lines, 2);
            faulty(" ".repeat(159) + "?", 1, 159);
            faulty(" ".repeat(155) + "paint", 2, 160);
            faulty(" ".repeat(153) + "rota 0;", 6, 160);
        });
        test("THE TAPE: its most lines, each of the shortest", () -> {
            String clouds = "";
            for (int hour = 0; hour < 12; hour++) {
                clouds += "cloud" + hour + ";";
            }
            good("rota;paint0;tired0;tired0;lover0;lover0;" + "deed0 1;".repeat(3) + clouds, 21);
        });
        test("places from 0", () -> {
            faulty("?", 1, 0);
            faulty(" ?", 1, 1);
        });
        test("THE TAPE (empty then): behind a text that is taken, and one that is not", () -> {
            SunPointer x = new SunPointer();
            feed(x, "paint 1;");
            due("text()", x.text(), 1);
            due("count(2)", x.count(2), 0);
            due("end(0)", x.end(0), 0);
            feed(x, "paint 7;");
            due("text()", x.text(), -16);
            due("count(2)", x.count(2), 0);
            due("feed(32)", x.feed(32), 1);
            due("text() of what came behind", x.text(), 0);
        });
        test("an empty TAPE is a text of no line", () -> {
            SunPointer x = told(FULL_TOWN);
            due("text()", x.text(), 0);
            due("fault()", x.fault(), 0);
            due("rule(0)", x.rule(0), 0);
            due("rule(1)", x.rule(1), 0);
            due("rule(2)", x.rule(2), 3);
            due("rule(3)", x.rule(3), 0);
            due("rule(4)", x.rule(4), 0);
        });
    }

    // ---- TOKENS

    private static boolean isLetter(int c) {
        return c >= 97 && c <= 122;
    }

    private static boolean isFigure(int c) {
        return c >= 48 && c <= 57;
    }

    private static void tokens() {
        test("each byte by itself: a blank, a NAME, a NUMBER, a ;, or no TOKEN", () -> each(0, 127, c -> {
            String text = String.valueOf((char) c);
            if (c == 32) {
                good(text, 0);
            } else {
                faulty(text, isLetter(c) || isFigure(c) || c == 59 ? 2 : 1, 0);
            }
        }));
        test("each byte behind a NAME: it goes on, ends, or is no TOKEN", () -> each(0, 127, c -> {
            String text = "rota" + (char) c + ";";
            if (c == ' ' || c == '4') {
                good(text, 1);
            } else if (c == ';') {
                faulty(text, 2, 5);
            } else if (isLetter(c)) {
                faulty(text, 2, 0);
            } else if (isFigure(c)) {
                faulty(text, c > '4' ? 3 : 6, c > '4' ? 4 : 6);
            } else {
                faulty(text, 1, 4);
            }
        }));
        test("TOKENS, each as long as may be: NAMES", () -> {
            faulty("rotarota;", 2, 0);
            faulty("paints 1;", 2, 0);
            faulty("pain 1;", 2, 0);
            faulty("a".repeat(160), 2, 0);
        });
        test("TOKENS, each as long as may be: NUMBERS", () -> {
            good("upright 3;rota 00 0;", 2);
            faulty("upright 3;rota 000;", 1, 15);
            faulty("rota 44;", 3, 5);
        });
        test("NUMBERS (1 or 2 figures)", () -> {
            good("paint 6;", 1);
            good("paint 06;", 1);
            faulty("paint 006;", 1, 6);
            good("deed 47 9;", 1);
            good("deed 7 09;", 1);
            faulty("deed 047 9;", 1, 5);
            faulty("deed 47 009;", 1, 8);
            faulty("paint " + "0".repeat(154), 1, 6);
        });
        test("one ; is a TOKEN", () -> {
            faulty(";", 2, 0);
            faulty("rota;;", 2, 5);
            faulty("paint 1;;", 2, 8);
        });
        test("blanks (32) between, as many as may be, or none where TOKENS end by themselves", () -> {
            good("   paint   1   ;   ", 1);
            good("paint1;cloud2;rota4;deed3 4;", 4);
            faulty("paint" + (char) 9 + "1;", 1, 5);
            faulty("paint 1;" + (char) 10, 1, 8);
            faulty("paint 1;" + (char) 0, 1, 8);
            faulty("paint 1;" + (char) 31, 1, 8);
            faulty("paint 1;" + (char) 33, 1, 8);
        });
    }

    // ---- lines

    private static void lines() {
        test("text: { line }: none, one, several", () -> {
            good("", 0);
            good(" ", 0);
            good("rota;", 1);
            good("paint 1;rota;deed 1 1;lover 1;cloud 1;", 5);
        });
        test("K: a MAN more of that KIND: LEAN", () -> {
            SunPointer x = told("lover 0;upright 6;tired 1;stooped 5;");
            int[] kinds = {3, 0, 2, 1};
            int[] leans = {0, 6, 1, 5};
            each(0, 3, m -> due("KIND of " + m, x.man(m, 0), kinds[m]));
            each(0, 3, m -> due("LEAN of " + m, x.man(m, 1), leans[m]));
        });
        test("rota { N }: all others nobody", () -> each(0, 12, n -> {
            SunPointer x = told("upright 3;rota " + "0 ".repeat(n) + ";");
            due("rule(4) of " + n, x.rule(4), (1 << n) - 1);
            each(0, 11, hour -> due("rota(" + hour + ") of " + n, x.rota(hour), hour < n ? 0 : NONE));
        }));
        test("rota: 0 to 3 a MAN, 4 nobody", () -> {
            SunPointer x = told("lover 0;lover 1;lover 2;lover 3;rota 0 1 2 3 4 3;");
            int[] who = {0, 1, 2, 3, NONE, 3, NONE, NONE, NONE, NONE, NONE, NONE};
            each(0, 11, hour -> due("rota(" + hour + ")", x.rota(hour), who[hour]));
            faulty("rota 5;", 3, 5);
        });
        test("cloud: an HOUR (0 to 11)", () -> {
            each(0, 11, hour -> due("rule(3)", told("cloud " + hour + ";").rule(3), 1 << hour));
            faulty("cloud 12;", 3, 6);
        });
        test("cloud: every HOUR", () -> {
            String all = "";
            for (int hour = 0; hour < 12; hour++) {
                all += "cloud " + hour + ";";
            }
            due("rule(3)", told(all).rule(3), 4095);
        });
        test("deed: a DEED more: DUE (0 to 47), WORTH", () -> {
            each(0, 47, q -> due("DUE", told("deed " + q + " 1;").deed(0, 0), q));
            each(1, 9, w -> due("WORTH", told("deed 1 " + w + ";").deed(0, 1), w));
            SunPointer x = told("deed 4 1;deed 3 2;deed 2 3;deed 1 4;deed 0 5;");
            each(0, 4, i -> due("DUE by order", x.deed(i, 0), 4 - i));
            each(0, 4, i -> due("WORTH by order", x.deed(i, 1), i + 1));
        });
        test("lines of rota and MEN in any order", () -> {
            SunPointer x = told("rota 1 0;deed 0 1;upright 2;lover 4;");
            due("rota(0)", x.rota(0), 1);
            due("rota(1)", x.rota(1), 0);
            due("shows(0)", x.shows(0), 2);
        });
    }

    // ---- FAULTS

    private static void faultOne() {
        test("FAULT 1: no TOKEN, at the place of its byte, wherever a TOKEN is read", () -> {
            faulty("A", 1, 0);
            faulty("paint ?1;", 1, 6);
            faulty("paint 1?;", 1, 7);
            faulty("paint 1;?", 1, 8);
            faulty("deed 1 ?", 1, 7);
            faulty("rota 4 ?", 1, 7);
            faulty("rota A", 1, 5);
            faulty("cloud 1 ,", 1, 8);
            faulty("tired -1;", 1, 6);
            faulty("Paint 1;", 1, 0);
            faulty("pAint 1;", 2, 0);
        });
        test("FAULT 1: a NUMBER that is too long (its first byte)", () -> {
            faulty("100", 1, 0);
            faulty("paint 100;", 1, 6);
            faulty("paint 1 100;", 1, 8);
            faulty("rota 4 444;", 1, 7);
            faulty("paint 1;000", 1, 8);
            faulty("deed 100 1;", 1, 5);
            faulty("cloud 012;", 1, 6);
        });
        test("FAULT 1 in the place of a 13th NUMBER of rota, as it is read", () -> {
            faulty(TWELVE + "?", 1, 29);
            faulty(TWELVE + "444;", 1, 29);
        });
    }

    private static void faultTwo() {
        test("FAULT 2: a NAME that is a line's but for one letter, one more, one less", () -> {
            for (String name : NAMES) {
                for (int at = 0; at < name.length(); at++) {
                    faulty(name.substring(0, at) + "z" + name.substring(at + 1) + " 1 1;", 2, 0);
                    faulty(name.substring(0, at) + name.substring(at + 1) + " 1 1;", 2, 0);
                    faulty(name.substring(0, at) + "z" + name.substring(at) + " 1 1;", 2, 0);
                }
                faulty(name + "z 1 1;", 2, 0);
            }
        });
        test("FAULT 2: a NAME that begins no line", () -> {
            faulty("dawn 1;", 2, 0);
            faulty("paint 1; noon", 2, 9);
            faulty("clouds 1;", 2, 0);
            faulty("upright 3;uprigh 3;", 2, 10);
            faulty("z", 2, 0);
        });
        test("FAULT 2: a NUMBER or ; that begins no line", () -> {
            faulty("1;", 2, 0);
            faulty("paint 1;2;", 2, 8);
            faulty(" ;", 2, 1);
        });
        test("FAULT 2: a NUMBER is due, and another TOKEN stands there", () -> {
            faulty("upright;", 2, 7);
            faulty("stooped tired;", 2, 8);
            faulty("cloud;", 2, 5);
            faulty("paint ;", 2, 6);
            faulty("deed;", 2, 4);
            faulty("deed 1;", 2, 6);
            faulty("deed 1 deed", 2, 7);
            faulty("rota upright;", 2, 5);
            faulty("rota " + "4 ".repeat(11) + "a;", 2, 27);
        });
        test("FAULT 2: a ; is due, and another TOKEN stands there", () -> {
            faulty("upright 3 3;", 2, 10);
            faulty("cloud 1 cloud 2;", 2, 8);
            faulty("paint 1 1;", 2, 8);
            faulty("deed 1 1 1;", 2, 9);
            faulty("deed 1 1 deed 1 1;", 2, 9);
        });
        test("FAULT 2: or the end (the length), wherever a line is not at its end", () -> {
            for (String text : new String[] {"upright", "upright 3", "stooped", "tired 0", "lover", "rota", "rota 4",
                "cloud", "cloud 1", "paint", "paint 1", "deed", "deed 1", "deed 1 1", "rota" + " 4".repeat(11)}) {
                faulty(text, 2, text.length());
                faulty(text + "  ", 2, text.length() + 2);
                faulty("cloud 7;" + text, 2, text.length() + 8);
            }
        });
        test("FAULT 2: the end behind the 12th NUMBER of rota", () -> {
            faulty("rota" + " 4".repeat(12), 2, 28);
            faulty(TWELVE, 2, 29);
            faulty(TWELVE + "  ", 2, 31);
            good(TWELVE + ";", 1);
        });
    }

    private static void faultThree() {
        test("FAULT 3: a LEAN out of its bounds", () -> {
            for (String kind : new String[] {"upright", "stooped", "tired", "lover"}) {
                good(kind + " 0;", 1);
                good(kind + " 6;", 1);
                faulty(kind + " 7;", 3, kind.length() + 1);
                faulty(kind + " 99;", 3, kind.length() + 1);
            }
        });
        test("FAULT 3: a NUMBER of rota out of its bounds", () -> {
            faulty("rota 5;", 3, 5);
            faulty("rota " + "4 ".repeat(11) + "5;", 3, 27);
            faulty("rota 4 99;", 3, 7);
        });
        test("FAULT 3: an HOUR of cloud out of its bounds", () -> {
            good("cloud 11;", 1);
            faulty("cloud 12;", 3, 6);
            faulty("cloud 99;", 3, 6);
            faulty("cloud 0;cloud 12;", 3, 14);
            faulty("cloud 12?", 3, 6);
        });
        test("FAULT 3: PAINT out of its bounds", () -> {
            good("paint 0;", 1);
            good("paint 6;", 1);
            faulty("paint 7;", 3, 6);
            faulty("paint 10;", 3, 6);
        });
        test("FAULT 3: a DUE out of its bounds", () -> {
            good("deed 0 1;", 1);
            good("deed 47 1;", 1);
            faulty("deed 48 1;", 3, 5);
            faulty("deed 99 1;", 3, 5);
        });
        test("FAULT 3: a WORTH out of its bounds", () -> {
            good("deed 1 1;", 1);
            good("deed 1 9;", 1);
            faulty("deed 1 0;", 3, 7);
            faulty("deed 1 00;", 3, 7);
            faulty("deed 1 10;", 3, 7);
        });
    }

    private static void faultFour() {
        test("FAULT 4: rota for the second time (its NAME)", () -> {
            faulty("rota;rota;", 4, 5);
            faulty("rota;  rota 4;", 4, 7);
            faulty("rota 4;paint 1;rota", 4, 15);
        });
        test("FAULT 4: paint for the second time (its NAME)", () -> {
            faulty("paint 3;paint 3;", 4, 8);
            faulty("paint 3;rota; paint", 4, 14);
        });
        test("FAULT 4: an HOUR that has CLOUDS already (it)", () -> {
            faulty("cloud 0;cloud 0;", 4, 14);
            faulty("cloud 11;cloud 1;cloud  11;", 4, 24);
            faulty("cloud 1;cloud 01", 4, 14);
            good("cloud 1;cloud 11;", 2);
        });
        test("rota, paint, cloud, deed and MEN of an earlier text are no second time", () -> {
            SunPointer x = told(FULL_TOWN);
            feed(x, FULL_TOWN);
            due("text()", x.text(), 12);
            due("fault()", x.fault(), 0);
        });
    }

    private static void faultFive() {
        test("FAULT 5: the 5th MAN (its NAME)", () -> {
            good("upright 1;stooped 1;tired 1;lover 1;", 4);
            faulty("upright 1;stooped 1;tired 1;lover 1;lover 1;", 5, 36);
            faulty("lover 1;".repeat(4) + "  stooped", 5, 34);
            faulty("lover 1;".repeat(4) + "upright 9;", 5, 32);
        });
        test("FAULT 5: the 6th deed (its NAME)", () -> {
            good("deed 1 1;".repeat(5), 5);
            faulty("deed 1 1;".repeat(6), 5, 45);
            faulty("deed 1 1;".repeat(5) + " deed", 5, 46);
            faulty("deed 1 1;".repeat(5) + "deed 99 0;", 5, 45);
        });
        test("FAULT 5: a 13th NUMBER of rota (it)", () -> {
            good(TWELVE + ";", 1);
            faulty(TWELVE + "4;", 5, 29);
            faulty(TWELVE + "  4;", 5, 31);
            faulty(TWELVE + "4 4 4;", 5, 29);
        });
        test("FAULT 5: a 13th NUMBER of rota, whether it is one or not", () -> {
            faulty(TWELVE + "5;", 5, 29);
            faulty(TWELVE + "99", 5, 29);
            faulty(TWELVE + "rota;", 5, 29);
            faulty(TWELVE + "x", 5, 29);
        });
    }

    private static void faultSix() {
        test("FAULT 6: a MAN that there is not, behind all (the length)", () -> {
            faulty("rota 0;", 6, 7);
            faulty("rota 0;   ", 6, 10);
            faulty("rota 4 4 3;paint 1;", 6, 19);
            faulty("lover 1;rota 0 1;", 6, 17);
            faulty("lover 1;lover 1;lover 1;rota 0 1 2 3;", 6, 37);
            good("lover 1;lover 1;lover 1;rota 0 1 2;", 4);
            good("rota 4;", 1);
        });
        test("FAULT 6: the last HOUR alone", () -> {
            faulty("rota " + "4 ".repeat(11) + "0;", 6, 29);
            good("rota " + "4 ".repeat(11) + "0;tired 0;", 2);
        });
        test("FAULT 6: a MAN told behind rota is there", () -> good("rota 3;lover 1;lover 1;lover 1;lover 1;", 5));
        test("FAULT 6: MEN of an earlier text are not there", () -> {
            SunPointer x = told(FULL_TOWN);
            feed(x, "rota 0;");
            due("text()", x.text(), -17);
            due("fault()", x.fault(), 6);
            due("rule(0)", x.rule(0), 4);
        });
    }

    private static void firstMet() {
        test("the first met: a FAULT ahead hides one behind", () -> {
            faulty("rota 0;?", 1, 7);
            faulty("paint 7?", 3, 6);
            faulty("paint 7 100", 3, 6);
            faulty("cloud 12", 3, 6);
            faulty("rota 0;rota 5;", 4, 7);
            faulty("? paint 7;", 1, 0);
            faulty("deed 48", 3, 5);
            faulty("rota 0;paint", 2, 12);
        });
        test("a TOKEN is read when the one before has been taken: a NAME for the second time", () -> {
            faulty("rota;rota?", 4, 5);
            faulty("paint 1;paint 100;", 4, 8);
            faulty("paint 1;paint?", 4, 8);
        });
        test("a TOKEN is read when the one before has been taken: one too many", () -> {
            faulty("lover 1;".repeat(4) + "lover?", 5, 32);
            faulty("deed 1 1;".repeat(5) + "deed 100", 5, 45);
            faulty(TWELVE + "4?", 5, 29);
        });
        test("a TOKEN is read when the one before has been taken: a NUMBER", () -> {
            faulty("cloud 1;cloud 1?", 4, 14);
            faulty("deed 48?", 3, 5);
            faulty("deed 1 0?", 3, 7);
            faulty("judge?", 2, 0);
            faulty("rota 5?", 3, 5);
        });
    }

    // ---- a text that is taken, one that is not

    private static void taken() {
        test("A text that is taken tells all, in place of what there was", () -> {
            SunPointer x = told(FULL_TOWN);
            feed(x, "lover 1;");
            due("text()", x.text(), 1);
            int[] rules = {1, 0, 3, 0, 0, 0};
            each(0, 5, what -> due("rule(" + what + ")", x.rule(what), rules[what]));
            due("man(0, 0)", x.man(0, 0), 3);
            due("man(1, 0)", x.man(1, 0), BAD);
            due("deed(0, 0)", x.deed(0, 0), BAD);
            each(0, 11, hour -> due("rota(" + hour + ")", x.rota(hour), NONE));
        });
        test("A text that is taken: nothing is SEEN", () -> {
            SunPointer x = told("upright 3;rota 0;deed 1 1;");
            x.see(0, 40);
            feed(x, "upright 3;rota 0;deed 1 1;");
            x.text();
            due("count(0)", x.count(0), 0);
            due("leans(0)", x.leans(0), 127);
            due("see(0, 1)", x.see(0, 1), 1);
        });
        test("A text that is taken: IMAGES are gone", () -> {
            SunPointer x = told("upright 3;");
            x.keep(0);
            x.keep(1);
            due("text()", x.text(), 0);
            due("count(1)", x.count(1), 0);
            due("back(0)", x.back(0), STATE);
            due("back(1)", x.back(1), STATE);
            due("keep(0)", x.keep(0), 0);
        });
        test("A text with a FAULT: that which was told stays", () -> {
            String[] texts = {"?", "lover", "paint 7;", "paint 0;paint", "upright 0;".repeat(5), "rota 0;",
                "upright 0;stooped 0;rota 1 1;cloud 5;paint 0;deed 1 1;?"};
            for (String text : texts) {
                SunPointer x = told(FULL_TOWN);
                x.keep(1);
                x.see(0, 12);
                SunPointer twin = told(FULL_TOWN);
                feed(x, text);
                due("text of '" + text + "' has a FAULT", x.text() <= -10);
                each(0, 5, what -> due("rule(" + what + ")", x.rule(what), twin.rule(what)));
                each(0, 3, m -> each(0, 3, what -> due("man", x.man(m, what), twin.man(m, what))));
                each(0, 4, i -> each(0, 3, what -> due("deed", x.deed(i, what), twin.deed(i, what))));
                each(0, 11, hour -> due("rota(" + hour + ")", x.rota(hour), twin.rota(hour)));
                due("count(0)", x.count(0), 1);
                due("count(1)", x.count(1), 1);
                due("count(2)", x.count(2), 0);
            }
        });
        test("The FAULT of the latest text(); 0", () -> {
            SunPointer x = new SunPointer();
            due("fault() at first", x.fault(), 0);
            feed(x, "paint 7;");
            due("fault() ahead of text()", x.fault(), 0);
            x.text();
            due("fault()", x.fault(), 3);
            due("fault() again", x.fault(), 3);
            feed(x, "?");
            due("fault() stays while bytes come", x.fault(), 3);
            x.text();
            due("fault()", x.fault(), 1);
            x.text();
            due("fault() of a text that is taken", x.fault(), 0);
        });
    }
}
