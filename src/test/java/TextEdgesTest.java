/** The edges of a TEXT and of how it is LAID, a sentence of the document each (part 1; promises 1 to 5). */
public final class TextEdgesTest {
    private static final int BAD = PassTheSalt.BAD, NO = PassTheSalt.NO;
    private static final int FULL = PassTheSalt.FULL, NONE = PassTheSalt.NONE;
    private static final String GUEST = "g0,9,0;";
    private static final Due due = new Due();

    public static void main(String[] args) {
        bytes300();
        readsTo300();
        fullChangesNothing();
        writeCounts();
        writeHighestFirst();
        writeBadAheadOfFull();
        wiped();
        emptyText();
        oneBehindTheOther();
        letters();
        lettersOfGuestAndWorth();
        oneOrTwoFigures();
        figuresAlone();
        partedByCommas();
        endsBehindTheLast();
        worthFigures();
        dishes1To6();
        dishes3Without();
        dishesAheadOfGuests();
        dishesTwice();
        kinds0To3();
        dishBeforeGuest();
        noDishBeforeTwo();
        wants();
        guests6();
        guestsFromTheLeft();
        worthOfGuestToldLast();
        worth0To9();
        worth1Without();
        worthLastOfEach();
        ring();
        servant();
        cold();
        faultIsTheFirst();
        faultComesAndGoes();
        twoGuestsAtLeast();
        layWithFault();
        noChangesNothing();
        atFirst();
        laidAgain();
        layLeavesTheText();
        due.end();
    }

    private static void fine(String text) {
        due.is("fault of " + text, Due.told(text).fault(), NONE);
    }

    private static void faultAt(int place, String text) {
        due.is("fault of " + text, Due.told(text).fault(), place);
    }

    /** The text with items behind it that change nothing, up to so many bytes. */
    private static String padded(String text, int bytes) {
        StringBuilder all = new StringBuilder(text);
        while (all.length() < bytes) {
            all.append((bytes - all.length()) % 3 == 0 ? "s9;" : "s09;");
        }
        return all.toString();
    }

    private static String times(String item, int n) {
        return item.repeat(n);
    }

    private static void bytes300() {
        due.of("A TEXT is bytes (300 at most)");
        PassTheSalt x = new PassTheSalt();
        for (int k = 1; k <= 300; k++) {
            due.is("byte " + k, x.write(1, 'd'), k);
        }
        for (int n = 1; n <= 8; n++) {
            due.is(n + " on 300", x.write(n, 0), FULL);
        }
        for (int room = 1; room <= 8; room++) {
            x = Due.told(times("d", 300 - room));
            for (int n = room + 1; n <= 8; n++) {
                due.is(n + " where there is room for " + room, x.write(n, 0), FULL);
            }
            due.is("as many as there is room for", x.write(room, 0), 300);
        }
    }

    private static void readsTo300() {
        due.of("A TEXT is bytes (300 at most): read to the last of them");
        PassTheSalt x = Due.told(padded("g0,0,0;w999;g0,1,0;", 297) + "c5;");
        due.is("length", x.count(5), 300);
        due.is("fault", x.fault(), NONE);
        due.is("lay", x.lay(), 2);
        due.is("the last item counts", x.worth(0, 0, 1), 4);
        faultAt(298, padded("g0,0,0;", 298) + "c5");
        faultAt(297, padded("g0,0,0;", 297) + "c5,");
        faultAt(299, padded("g0,0,0;", 299) + "c");
        faultAt(299, padded("g0,0,0;", 299) + ";");
        faultAt(0, times("9", 300));
        faultAt(0, "w" + times("9", 299));
    }

    private static void fullChangesNothing() {
        due.of("FULL: nothing changes then");
        PassTheSalt x = Due.told(padded("", 296));
        due.is("five on 296", x.write(5, 0x783132333bL), FULL);
        due.is("length", x.count(5), 296);
        due.is("four on 296", x.write(4, 0x7330393bL), 300);
        due.is("nothing of the five is there", x.fault(), NONE);
    }

    private static void writeCounts() {
        due.of("n bytes (1 to 8)");
        PassTheSalt x = new PassTheSalt();
        int[] bad = {0, -1, 9, 10, 16, 64, 256 + 1, Integer.MAX_VALUE, Integer.MIN_VALUE, Integer.MIN_VALUE + 1};
        for (int n : bad) {
            due.is("write " + n, x.write(n, 'x'), BAD);
            due.is("length", x.count(5), 0);
        }
        int length = 0;
        for (int n = 1; n <= 8; n++) {
            length += n;
            due.is("write " + n, x.write(n, 'x'), length);
        }
    }

    private static void writeHighestFirst() {
        due.of("of v, the highest first");
        String item = "s1;r1;c1";
        for (int n = 1; n <= 8; n++) {
            // What stands above the n bytes is not of them.
            long v = -1L;
            for (int k = 0; k < n; k++) {
                v = v << 8 | item.charAt(k);
            }
            PassTheSalt x = new PassTheSalt();
            x.write(n, v);
            int begun = n / 3 * 3;
            due.is("fault of " + item.substring(0, n), x.fault(), n % 3 == 0 ? NONE : begun);
        }
        PassTheSalt x = new PassTheSalt();
        x.write(3, 0x3b3164L);
        due.is("the lowest first", x.fault(), 0);
        for (int sign = 128; sign < 256; sign++) {
            x = Due.told("d3;");
            x.write(8, (long) sign << 56);
            due.is("a byte of " + sign, x.fault(), 3);
        }
    }

    private static void writeBadAheadOfFull() {
        due.of("write: BAD; FULL. Of several the first");
        PassTheSalt x = Due.told(times("x", 300));
        due.is("nine on 300", x.write(9, 0), BAD);
        due.is("none on 300", x.write(0, 0), BAD);
        due.is("far too many on 300", x.write(Integer.MAX_VALUE, 0), BAD);
        due.is("one on 300", x.write(1, 0), FULL);
    }

    private static void wiped() {
        due.of("THE TEXT is empty: how long it was");
        PassTheSalt x = new PassTheSalt();
        due.is("of a new one", x.wipe(), 0);
        Due.write(x, times("x", 300));
        due.is("of a full one", x.wipe(), 300);
        due.is("then", x.wipe(), 0);
        due.is("length", x.count(5), 0);
        due.is("there is room again", x.write(1, 's'), 1);
        due.is("what was behind it is gone", x.fault(), 0);
        x.write(2, 0x313bL);
        due.is("from the first place on", x.fault(), NONE);
        due.lies("what is LAID stays", x, "012");
    }

    private static void emptyText() {
        due.of("FAULT. NONE: of an empty TEXT");
        due.is("new", new PassTheSalt().fault(), NONE);
        PassTheSalt x = Due.told("x");
        x.wipe();
        due.is("wiped", x.fault(), NONE);
    }

    private static void oneBehindTheOther() {
        due.of("ITEMS one behind the other");
        fine("s1;r1;c1;s2;");
        String[] between = {" ", "\n", "\t", ",", ";", "\u0000", "0", "\u00ff"};
        for (String sign : between) {
            faultAt(3, "s1;" + sign + "r1;");
            faultAt(0, sign + "s1;");
            faultAt(6, "s1;r1;" + sign);
        }
        faultAt(0, "s1r1;");
        faultAt(0, "s1,r1;");
    }

    private static void letters() {
        due.of("each a letter");
        for (int sign = 0; sign < 256; sign++) {
            boolean told = sign == 'd' || sign == 'r' || sign == 's' || sign == 'c';
            faultAt(told ? NONE : 0, (char) sign + "1;");
            faultAt(told ? NONE : 3, "s9;" + (char) sign + "1;");
        }
        faultAt(0, "1;");
        faultAt(0, ";");
        faultAt(0, "ss1;");
    }

    private static void lettersOfGuestAndWorth() {
        due.of("each a letter: g and w");
        for (int sign = 0; sign < 256; sign++) {
            faultAt(sign == 'g' ? NONE : 0, (char) sign + "0,0,0;");
            faultAt(sign == 'w' ? NONE : 7, "g0,0,0;" + (char) sign + "111;");
        }
    }

    private static void oneOrTwoFigures() {
        due.of("numbers (one or two figures)");
        String[] letters = {"d", "r", "s", "c"};
        for (String letter : letters) {
            fine(letter + "1;");
            fine(letter + "01;");
            faultAt(0, letter + ";");
            faultAt(0, letter + "001;");
        }
        fine("g1,1,1;");
        fine("g01,01,01;");
        fine("g00,09,00;");
        String[] wrong = {"g,0,0;", "g0,,0;", "g0,0,;", "g,,;", "g001,0,0;", "g0,001,0;", "g0,0,001;"};
        for (String text : wrong) {
            faultAt(0, text);
        }
    }

    private static void figuresAlone() {
        due.of("numbers (.. figures)");
        for (int sign = 0; sign < 256; sign++) {
            boolean figure = sign >= '0' && sign <= '9';
            faultAt(figure ? NONE : 0, "s" + (char) sign + ";");
            if (sign != ';') {
                faultAt(figure ? NONE : 0, "s1" + (char) sign + ";");
                faultAt(figure ? NONE : 0, "s" + (char) sign + "1;");
            }
            faultAt(figure ? NONE : 10, "d1;g0,0,0;w" + (char) sign + ";");
        }
    }

    private static void partedByCommas() {
        due.of("parted by ,");
        for (int sign = 0; sign < 256; sign++) {
            faultAt(sign == ',' ? NONE : 0, "g0" + (char) sign + "0,0;");
            faultAt(sign == ',' ? NONE : 0, "g0,0" + (char) sign + "0;");
        }
        String[] wrong = {"g0;", "g0,0;", "g0,0,0,0;", "g0,0,0,;", "g,0,0,0;", "g0,,0,0;", "s1,;", "s,1;", "s1,1;", "d1,1;", "r1,0;",
            "c1,2;"};
        for (String text : wrong) {
            faultAt(0, text);
        }
    }

    private static void endsBehindTheLast() {
        due.of("and ; (behind the last one, too)");
        String text = "d4;g1,3,15;w1234;r1;s10;c2;g0,9,0;";
        int begun = 0;
        for (int length = 0; length <= text.length(); length++) {
            boolean whole = length == 0 || text.charAt(length - 1) == ';';
            begun = whole ? length : begun;
            faultAt(whole ? NONE : begun, text.substring(0, length));
        }
        for (int sign = 0; sign < 256; sign++) {
            if (sign < '0' || sign > '9') {
                faultAt(sign == ';' ? NONE : 0, "s1" + (char) sign);
                faultAt(sign == ';' ? NONE : 0, "g0,0,0" + (char) sign);
            }
            faultAt(sign == ';' ? NONE : 7, "g0,0,0;w111" + (char) sign);
        }
    }

    private static void worthFigures() {
        due.of("S is figures instead, one for each DISH");
        for (int n = 1; n <= 6; n++) {
            String head = "d" + n + ";" + GUEST;
            for (int figures = 0; figures <= 12; figures++) {
                faultAt(figures == n ? NONE : 10, head + "w" + times("5", figures) + ";");
            }
        }
        fine(GUEST + "w111;");
        faultAt(7, GUEST + "w11;");
        faultAt(7, GUEST + "w1111;");
        faultAt(7, GUEST + "w1,1,1;");
        faultAt(7, GUEST + "w11,;");
        faultAt(7, GUEST + "w 111;");
    }

    private static void dishes1To6() {
        due.of("dN there are N DISHES (1 to 6)");
        for (int n = 0; n < 100; n++) {
            boolean told = n >= 1 && n <= 6;
            faultAt(told ? NONE : 0, "d" + n + ";");
            if (told) {
                due.is("count(1)", Due.laid("d" + n + ";" + GUEST + GUEST).count(1), n);
                due.is("worth of the last", Due.laid("d" + n + ";" + GUEST + GUEST).worth(0, n - 1, 0), 1);
                due.is("worth of one more", Due.laid("d" + n + ";" + GUEST + GUEST).worth(0, n, 0), BAD);
            }
        }
        faultAt(0, "d00;");
        fine("d06;");
        faultAt(0, "d07;");
    }

    private static void dishes3Without() {
        due.of("dN (.. 3 without)");
        due.is("count(1)", Due.laid(GUEST + GUEST).count(1), 3);
        fine("g0,2,4;");
        faultAt(0, "g0,3,0;");
        faultAt(0, "g0,0,8;");
        PassTheSalt x = Due.laid("d6;" + GUEST + GUEST);
        x.wipe();
        Due.write(x, GUEST + GUEST);
        x.lay();
        due.is("count(1) where there were 6", x.count(1), 3);
    }

    private static void dishesAheadOfGuests() {
        due.of("dN (.. no GUEST told ahead of it)");
        faultAt(7, GUEST + "d3;");
        faultAt(7, GUEST + "d6;");
        faultAt(14, GUEST + GUEST + "d2;");
        faultAt(10, "d3;" + GUEST + "d3;");
        fine("r1;s1;c1;d5;g0,4,16;w12345;");
    }

    private static void dishesTwice() {
        due.of("dN (.. no GUEST told ahead of it), told again");
        fine("d1;d6;g0,5,63;");
        faultAt(6, "d6;d1;g0,5,0;");
        due.is("count(1)", Due.laid("d6;d2;" + GUEST + GUEST).count(1), 2);
    }

    private static void kinds0To3() {
        due.of("KIND K (0 KIND, 1 OWN, 2 HOLD, 3 CHILD)");
        for (int kind = 0; kind < 100; kind++) {
            faultAt(kind <= 3 ? NONE : 0, "g" + kind + ",0,0;");
            if (kind <= 3) {
                due.is("guest(1, 0)", Due.laid(GUEST + "g" + kind + ",0,0;").guest(1, 0), kind);
            }
        }
    }

    private static void dishBeforeGuest() {
        due.of("before whom DISH D is (9: none; ..), 0 to N less 1");
        for (int n = 1; n <= 6; n++) {
            for (int dish = 0; dish < 100; dish++) {
                boolean told = dish < n || dish == 9;
                String text = "d" + n + ";g0," + dish + ",0;";
                faultAt(told ? NONE : 3, text);
                if (told) {
                    due.is("guest(0, 1)", Due.laid(text + GUEST).guest(0, 1), dish == 9 ? NONE : dish);
                }
            }
        }
    }

    private static void noDishBeforeTwo() {
        due.of("no DISH before two");
        for (int dish = 0; dish < 6; dish++) {
            faultAt(10, "d6;g0," + dish + ",0;g1," + dish + ",0;");
            faultAt(17, "d6;g0," + dish + ",0;" + GUEST + "g1,0" + dish + ",0;");
        }
        faultAt(38, "d6;g0,0,0;g0,1,0;g0,2,0;g0,3,0;g0,4,0;g0,0,0;");
        due.of("9: none, before several");
        fine(times(GUEST, 6));
        fine(GUEST + "g0,09,0;");
    }

    private static void wants() {
        due.of("who wants the DISHES W (bits; 0 to 63, of those there are)");
        for (int n = 1; n <= 6; n++) {
            for (int bits = 0; bits < 100; bits++) {
                boolean told = bits < 1 << n;
                String text = "d" + n + ";g0,9," + bits + ";";
                faultAt(told ? NONE : 3, text);
                if (told) {
                    due.is("guest(0, 2)", Due.laid(text + GUEST).guest(0, 2), bits);
                }
            }
        }
    }

    private static void guests6() {
        due.of("a GUEST .. 6 at most");
        for (int n = 2; n <= 6; n++) {
            due.is("lay", Due.told(times(GUEST, n)).lay(), n);
            due.is("count(0)", Due.laid(times(GUEST, n)).count(0), n);
        }
        faultAt(42, times(GUEST, 7));
        due.is("lay of seven", Due.told(times(GUEST, 7)).lay(), NO);
        faultAt(45, times(GUEST, 6) + "r1;" + GUEST);
        fine(times(GUEST, 6) + "w123;r1;s1;c1;");
    }

    private static void guestsFromTheLeft() {
        due.of("a GUEST .. 0, 1, .., from the left on");
        PassTheSalt x = Due.laid("d6;g0,5,1;g1,4,2;g2,3,4;g3,2,8;g0,1,16;g1,0,32;");
        for (int i = 0; i < 6; i++) {
            due.is("kind of " + i, x.guest(i, 0), i % 4);
            due.is("dish of " + i, x.guest(i, 1), 5 - i);
            due.is("wants of " + i, x.guest(i, 2), 1 << i);
        }
        due.is("guest(6, 0)", x.guest(6, 0), BAD);
        due.is("guest(-1, 0)", x.guest(-1, 0), BAD);
    }

    private static void worthOfGuestToldLast() {
        due.of("wS what DISHES are worth to the GUEST told last");
        faultAt(0, "w111;");
        faultAt(6, "d3;r1;w111;" + GUEST);
        PassTheSalt x = Due.laid(GUEST + "r1;s3;c0;w234;" + GUEST + GUEST + "w567;");
        int[][] want = {{2, 3, 4}, {1, 1, 1}, {5, 6, 7}};
        for (int i = 0; i < 3; i++) {
            for (int d = 0; d < 3; d++) {
                due.is("worth(" + i + ", " + d + ", 0)", x.worth(i, d, 0), want[i][d]);
            }
        }
    }

    private static void worth0To9() {
        due.of("wS .. 0 to 9 each");
        PassTheSalt x = Due.laid("d5;" + GUEST + "w01234;" + GUEST + "w56789;");
        for (int d = 0; d < 5; d++) {
            due.is("low", x.worth(0, d, 0), d);
            due.is("high", x.worth(1, d, 0), 5 + d);
        }
    }

    private static void worth1Without() {
        due.of("wS .. (all 1 without");
        PassTheSalt x = Due.laid("d6;" + times(GUEST + "w999999;", 6));
        x.wipe();
        Due.write(x, "d6;" + times(GUEST, 6));
        x.lay();
        for (int i = 0; i < 6; i++) {
            for (int d = 0; d < 6; d++) {
                due.is("worth(" + i + ", " + d + ", 0)", x.worth(i, d, 0), 1);
            }
        }
    }

    private static void worthLastOfEach() {
        due.of("wS .. the last one of each)");
        PassTheSalt x = Due.laid("d2;" + GUEST + "w12;w34;" + GUEST + "w56;w78;w90;");
        int[][] want = {{3, 4}, {9, 0}};
        for (int i = 0; i < 2; i++) {
            for (int d = 0; d < 2; d++) {
                due.is("worth(" + i + ", " + d + ", 0)", x.worth(i, d, 0), want[i][d]);
            }
        }
    }

    private static void ring() {
        due.of("rR the table is a ROW (0) or a RING (1)");
        for (int r = 0; r < 100; r++) {
            faultAt(r <= 1 ? NONE : 0, "r" + r + ";");
        }
        due.is("r0", Due.laid(GUEST + GUEST + "r0;").count(6), 0);
        due.is("r1", Due.laid("r1;" + GUEST + GUEST).count(6), 1);
        due.of("rR .. (0 without; the last one)");
        PassTheSalt x = Due.laid(GUEST + GUEST + "r1;");
        x.wipe();
        Due.write(x, GUEST + GUEST);
        x.lay();
        due.is("without", x.count(6), 0);
        due.is("r1 last", Due.laid("r0;" + GUEST + GUEST + "r1;").count(6), 1);
        due.is("r0 last", Due.laid("r1;" + GUEST + "r1;" + GUEST + "r0;").count(6), 0);
    }

    private static void servant() {
        String holds = "g2,0,0;g2,1,0;";
        due.of("sP a SERVANT's pass costs P (0 to 99)");
        for (int p = 0; p < 100; p++) {
            due.is("price by s" + p, Due.laid(holds + "s" + p + ";").price(0, 1), p);
        }
        faultAt(0, "s100;");
        due.of("sP .. (9 without; the last one)");
        PassTheSalt x = Due.laid(holds + "s50;");
        x.wipe();
        Due.write(x, holds);
        x.lay();
        due.is("without", x.price(0, 1), 9);
        due.is("the last one", Due.laid("s7;" + holds + "s50;s3;").price(0, 1), 3);
    }

    private static void cold() {
        String two = "g0,0,0;w999;g0,1,0;";
        due.of("cC DISHES lose C tenths of what they are worth a MINUTE (0 to 9)");
        int[] want = {9, 8, 7, 6, 5, 4, 3, 2, 1, 0};
        for (int c = 0; c < 10; c++) {
            due.is("c" + c, Due.laid(two + "c" + c + ";").worth(0, 0, 1), want[c]);
        }
        for (int c = 10; c < 100; c++) {
            faultAt(0, "c" + c + ";");
        }
        due.of("cC .. (1 without; the last one)");
        PassTheSalt x = Due.laid(two + "c5;");
        x.wipe();
        Due.write(x, two);
        x.lay();
        due.is("without, at 1", x.worth(0, 0, 1), 8);
        due.is("without, at 2", x.worth(0, 0, 2), 7);
        due.is("the last one", Due.laid("c9;" + two + "c8;c0;").worth(0, 0, 1), 9);
    }

    private static void faultIsTheFirst() {
        due.of("FAULT: the place of the first byte of the first ITEM that is not so");
        faultAt(0, "x");
        faultAt(3, "d3;x1;d0;");
        faultAt(3, "d3;g0,0,9;w11;");
        faultAt(3, "d3;g0,0,64;");
        faultAt(3, "d3;g0,0,0,");
        faultAt(10, "d3;g0,0,0;g0,0,0;x");
        faultAt(17, "d3;g0,0,0;g0,1,0;w9999;");
    }

    private static void faultComesAndGoes() {
        due.of("FAULT, as THE TEXT is now");
        PassTheSalt x = Due.told("d3;s1");
        due.is("begun", x.fault(), 3);
        Due.write(x, "0");
        due.is("begun still", x.fault(), 3);
        Due.write(x, ";");
        due.is("ended", x.fault(), NONE);
        Due.write(x, "d9;");
        due.is("one more", x.fault(), 7);
        Due.write(x, "d3;");
        due.is("it stays", x.fault(), 7);
        due.lies("nothing is LAID by it", x, "012");
    }

    private static void twoGuestsAtLeast() {
        due.of("LAID is a TEXT .. of two GUESTS at least (NO else");
        PassTheSalt x = new PassTheSalt();
        due.is("an empty text", x.lay(), NO);
        Due.write(x, "d3;r1;s1;c1;");
        due.is("no guest", x.lay(), NO);
        Due.write(x, GUEST);
        due.is("one guest", x.lay(), NO);
        due.is("which is no fault", x.fault(), NONE);
        due.lies("nothing was laid", x, "012");
        due.is("nor made a ring", x.count(6), 0);
        Due.write(x, GUEST);
        due.is("two guests", x.lay(), 2);
        due.lies("laid", x, "--");
    }

    private static void layWithFault() {
        due.of("LAID is a TEXT without FAULT (NO else");
        String two = "g0,1,0;g0,0,0;";
        String[] wrong = {"x", "r2;", "d2;", "g0,0,0;", "s1", "w11;", " "};
        for (String text : wrong) {
            PassTheSalt x = Due.told(two + text);
            due.is("lay of " + two + text, x.lay(), NO);
            due.lies("nothing was laid", x, "012");
            due.is("what they want stays", x.guest(0, 2), 2);
        }
    }

    private static void noChangesNothing() {
        due.of("lay: NO. nothing changes then");
        PassTheSalt x = new PassTheSalt();
        x.ask(0, 2);
        x.keep();
        x.ask(0, 1);
        Due.write(x, "d5;r1;s0;c9;g3,4,31;w99999;g3,3,31;w99999;x");
        String was = Whole.of(x);
        due.is("lay", x.lay(), NO);
        due.same("all that can be seen", Whole.of(x), was);
        due.is("undo", x.undo(), 1);
        due.lies("undone", x, "210");
        due.is("back", x.back(), 0);
        due.is("minutes", x.count(2), 2);
    }

    private static void atFirst() {
        due.of("at first d3;g0,0,2;g0,1,4;g0,2,1;");
        PassTheSalt x = Due.laid("d3;g0,0,2;g0,1,4;g0,2,1;");
        x.wipe();
        due.same("a new one", Whole.of(new PassTheSalt()), Whole.of(x));
        due.is("THE TEXT is empty", new PassTheSalt().count(5), 0);
        due.is("lay of it", new PassTheSalt().lay(), NO);
        PassTheSalt y = new PassTheSalt();
        Due.write(y, GUEST + GUEST);
        due.is("its text is not ahead of what is written", y.lay(), 2);
    }

    private static void laidAgain() {
        due.of("LAID: .. MINUTE 0, nothing UNDONE, KEPT");
        PassTheSalt x = Due.laid("g0,0,0;g0,1,0;g0,2,0;");
        x.ask(0, 1);
        x.keep();
        x.ask(1, 2);
        x.keep();
        due.is("lay", x.lay(), 3);
        due.lies("as told", x, "012");
        for (int what = 2; what <= 4; what++) {
            due.is("count(" + what + ")", x.count(what), 0);
        }
        for (int i = 0; i < 3; i++) {
            due.is("had by " + i, x.guest(i, 3), 1 << i);
        }
        due.is("undo", x.undo(), NO);
        due.is("back", x.back(), NO);
        due.is("went(0)", x.went(0), 1);
        due.is("keep", x.keep(), 1);
    }

    private static void layLeavesTheText() {
        due.of("lay: THE TEXT stays");
        PassTheSalt x = Due.laid(GUEST + GUEST);
        due.is("length", x.count(5), 14);
        Due.write(x, GUEST);
        due.is("behind it", x.lay(), 3);
        due.is("the same again", x.lay(), 3);
        due.is("wipe", x.wipe(), 21);
    }
}
