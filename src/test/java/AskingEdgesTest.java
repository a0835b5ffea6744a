/** The edges of WAYS, askings, what was HAD, what is UNDONE and what goes cold (part 2; promises 6 to 11). */
public final class AskingEdgesTest {
    private static final int BAD = PassTheSalt.BAD, NO = PassTheSalt.NO, NONE = PassTheSalt.NONE;
    private static final Due due = new Due();

    public static void main(String[] args) {
        handsInRow();
        handsInRing();
        handsOfTheSameOne();
        handsBad();
        waysInRow();
        waysInRing();
        waysWhereMoreSat();
        sameWayBack();
        unlike();
        dishBeforeEach();
        noHold();
        askBad();
        askBadAheadOfNo();
        keptBetweenAndBack();
        oneBehindTheOther();
        ownAlone();
        ownBetweenAlone();
        worthMore();
        notCold();
        nothingIsWorth0();
        nothingGoesOn();
        nothingComes();
        minutes();
        childWhoAsks();
        childWhoIsAsked();
        childrenInOrder();
        childWithNothing();
        childNextToNothing();
        childAtTheEndOfRow();
        childAtTheEndOfRing();
        childBetween();
        had();
        hadAsLaid();
        guestBad();
        undoNone();
        undoLastEight();
        undoThenAskAgain();
        undoTakesAllBack();
        undoLeaves();
        worthAtMinute();
        worthBad();
        eveningEachCut();
        eveningNotBelow0();
        eveningOfNothing();
        due.end();
    }

    /** All but two are OWN with nothing before them, so that whoever is passed first, from either end, keeps what comes. */
    private static String keepersBetween(int guests, int i, int j, int ring) {
        StringBuilder text = new StringBuilder("d2;");
        for (int g = 0; g < guests; g++) {
            text.append(g == i ? "g0,0,0;" : g == j ? "g0,1,0;" : "g1,9,0;");
        }
        return text.append("r").append(ring).append(";").toString();
    }

    /** As the table of keepers lies, once i has asked j by that many steps, each of so much. */
    private static String keptOnTheWay(int guests, int i, int j, int steps, int step) {
        char[] lie = "-".repeat(guests).toCharArray();
        int nextToI = Math.floorMod(i + step, guests);
        int nextToJ = Math.floorMod(j - step, guests);
        if (steps == 1) {
            lie[j] = '0';
            lie[i] = '1';
        } else if (steps == 2) {
            lie[nextToI] = '0';
            lie[i] = '1';
        } else {
            lie[nextToI] = '0';
            lie[nextToJ] = '1';
        }
        return new String(lie);
    }

    private static String guests(int n) {
        return "g0,9,0;".repeat(n);
    }

    private static void handsInRow() {
        due.of("WAY .. in a ROW the only one. HANDS: how many steps it is");
        for (int n = 2; n <= 6; n++) {
            PassTheSalt x = Due.laid(guests(n));
            for (int i = 0; i < n; i++) {
                for (int j = 0; j < n; j++) {
                    due.is(n + " guests, hands(" + i + ", " + j + ")", x.hands(i, j), i < j ? j - i : i - j);
                }
            }
        }
    }

    private static void handsInRing() {
        due.of("in a RING the shorter one");
        int[][] byTheRight = {{}, {}, {0, 1}, {0, 1, 1}, {0, 1, 2, 1}, {0, 1, 2, 2, 1}, {0, 1, 2, 3, 2, 1}};
        for (int n = 2; n <= 6; n++) {
            PassTheSalt x = Due.laid(guests(n) + "r1;");
            for (int i = 0; i < n; i++) {
                for (int j = 0; j < n; j++) {
                    due.is(n + " guests, hands(" + i + ", " + j + ")", x.hands(i, j), byTheRight[n][Math.floorMod(j - i, n)]);
                }
            }
        }
    }

    private static void handsOfTheSameOne() {
        due.of("hands: (the same one: 0)");
        PassTheSalt row = Due.laid(guests(6));
        PassTheSalt ring = Due.laid(guests(6) + "r1;");
        for (int i = 0; i < 6; i++) {
            due.is("row", row.hands(i, i), 0);
            due.is("ring", ring.hands(i, i), 0);
        }
    }

    private static void handsBad() {
        due.of("hands: BAD");
        PassTheSalt x = Due.laid(guests(4) + "r1;");
        int[] none = {-1, 4, 5, 6, Integer.MIN_VALUE, Integer.MAX_VALUE};
        for (int i : none) {
            due.is("hands(" + i + ", 0)", x.hands(i, 0), BAD);
            due.is("hands(0, " + i + ")", x.hands(0, i), BAD);
            due.is("hands of the same one, " + i, x.hands(i, i), BAD);
        }
    }

    private static void waysInRow() {
        due.of("WAY .. by the right (each next number ..) or by the left; in a ROW the only one");
        for (int n = 2; n <= 6; n++) {
            for (int i = 0; i < n; i++) {
                for (int j = 0; j < n; j++) {
                    if (i != j) {
                        PassTheSalt x = Due.laid(keepersBetween(n, i, j, 0));
                        x.ask(i, j);
                        int step = j > i ? 1 : -1;
                        due.lies(i + " asks " + j + " of " + n, x, keptOnTheWay(n, i, j, Math.abs(i - j), step));
                    }
                }
            }
        }
    }

    private static void waysInRing() {
        due.of("WAY .. in a RING 0 behind the last; the shorter one, of alike ones by the right");
        for (int n = 2; n <= 6; n++) {
            for (int i = 0; i < n; i++) {
                for (int j = 0; j < n; j++) {
                    if (i != j) {
                        PassTheSalt x = Due.laid(keepersBetween(n, i, j, 1));
                        x.ask(i, j);
                        int right = Math.floorMod(j - i, n);
                        int left = Math.floorMod(i - j, n);
                        String want = left < right ? keptOnTheWay(n, i, j, left, -1) : keptOnTheWay(n, i, j, right, 1);
                        due.lies(i + " asks " + j + " of " + n, x, want);
                    }
                }
            }
        }
    }

    private static void waysWhereMoreSat() {
        due.of("WAY .. in a RING 0 behind the last, of those there are now");
        for (int n = 2; n <= 5; n++) {
            for (int i = 0; i < n; i++) {
                for (int j = 0; j < n; j++) {
                    if (i != j) {
                        PassTheSalt x = Due.laid("d2;" + "g1,9,0;w99;".repeat(6) + "r1;");
                        x.wipe();
                        Due.write(x, keepersBetween(n, i, j, 1).replace("g1", "g0"));
                        x.lay();
                        x.ask(i, j);
                        due.lies(i + " asks " + j + " of " + n, x, changed(n, i, j));
                    }
                }
            }
        }
    }

    /** Where none sits between who keeps a thing. */
    private static String changed(int guests, int i, int j) {
        char[] lie = "-".repeat(guests).toCharArray();
        lie[i] = '1';
        lie[j] = '0';
        return new String(lie);
    }

    private static void sameWayBack() {
        due.of("Then what was before j goes the same WAY back to i");
        // To 1 and to 3 dish 2 alone is worth more than what is before them: who takes it sits on the way back.
        String four = "d4;g0,0,0;g1,1,0;w0190;g0,2,0;g1,3,0;w0091;r1;";
        PassTheSalt x = Due.laid(four);
        due.is("0 asks 2", x.ask(0, 2), 1);
        due.lies("by 1", x, "1203");
        x = Due.laid("d4;g0,2,0;g1,1,0;w0190;g0,0,0;g1,3,0;w0091;r1;");
        due.is("2 asks 0", x.ask(2, 0), 3);
        due.lies("by 3", x, "0132");
    }

    private static void unlike() {
        due.of("ASKED can be j by i (unlike)");
        PassTheSalt x = new PassTheSalt();
        for (int i = 0; i < 3; i++) {
            due.is("ask(" + i + ", " + i + ")", x.ask(i, i), NO);
        }
        due.is("no asking", x.count(3), 0);
        due.is("no minutes", x.count(2), 0);
    }

    private static void dishBeforeEach() {
        due.of("if a DISH is before each of them");
        PassTheSalt x = Due.laid("g0,0,0;g0,9,0;g0,1,0;g0,9,0;");
        int[][] no = {{0, 1}, {1, 0}, {1, 3}, {3, 1}, {2, 3}, {3, 2}};
        for (int[] pair : no) {
            due.is("ask(" + pair[0] + ", " + pair[1] + ")", x.ask(pair[0], pair[1]), NO);
        }
        due.lies("nothing changes", x, "0-1-");
        due.is("no asking", x.count(3), 0);
        due.is("both have one", x.ask(0, 2), 1);
    }

    private static void noHold() {
        due.of("and j is no HOLD");
        for (int kind = 0; kind < 4; kind++) {
            PassTheSalt x = Due.laid("d2;g0,0,0;g" + kind + ",1,0;");
            due.is("of kind " + kind, x.ask(0, 1), kind == 2 ? NO : 1);
            due.is("askings", x.count(3), kind == 2 ? 0 : 1);
        }
        due.is("a HOLD asks", Due.laid("d2;g2,0,0;g0,1,0;").ask(0, 1), 1);
        due.is("a HOLD asks a HOLD", Due.laid("d2;g2,0,0;g2,1,0;").ask(0, 1), NO);
    }

    private static void askBad() {
        due.of("ask: BAD");
        PassTheSalt x = new PassTheSalt();
        int[] none = {-1, 3, 4, 5, 6, Integer.MIN_VALUE, Integer.MAX_VALUE};
        for (int i : none) {
            due.is("ask(" + i + ", 0)", x.ask(i, 0), BAD);
            due.is("ask(0, " + i + ")", x.ask(0, i), BAD);
        }
        due.lies("nothing changes", x, "012");
        due.is("no asking", x.count(3), 0);
    }

    private static void askBadAheadOfNo() {
        due.of("ask: BAD; NO. Of several the first");
        PassTheSalt x = Due.laid("d2;g2,0,0;g0,9,0;");
        due.is("a HOLD is asked by none there is", x.ask(2, 0), BAD);
        due.is("nothing before him who asks none there is", x.ask(1, 2), BAD);
        due.is("the same one, who is not there", x.ask(2, 2), BAD);
        due.is("the same one", x.ask(1, 1), NO);
    }

    private static void keptBetweenAndBack() {
        due.of("Both are taken up .. Then what was before j goes .. likewise");
        PassTheSalt x = Due.laid("d3;g0,0,0;g1,1,0;w519;g0,2,0;");
        due.is("his own comes back to him who asks", x.ask(0, 2), 0);
        due.lies("kept twice", x, "021");
    }

    private static void oneBehindTheOther() {
        due.of("past each who sits between, one behind the other");
        PassTheSalt x = Due.laid("d4;g0,0,0;g1,1,0;w2100;g1,2,0;w0910;g0,3,0;");
        due.is("ask(0, 3)", x.ask(0, 3), 3);
        due.lies("0 to 1, 1 to 2, 2 to 3", x, "3012");
        x = Due.laid("d4;g0,0,0;g1,1,0;w2100;g1,2,0;w0910;g0,3,0;");
        due.is("ask(3, 0)", x.ask(3, 0), 2);
        due.lies("3 to 0; 0 to 1, 1 to 2, 2 to 3", x, "3012");
    }

    private static void ownAlone() {
        due.of("an OWN one of these");
        for (int kind = 0; kind < 4; kind++) {
            PassTheSalt x = Due.laid("d3;g0,0,0;g" + kind + ",1,0;w910;g0,2,0;");
            x.ask(0, 2);
            due.lies("kind " + kind + " between", x, kind == 1 ? "201" : "210");
        }
    }

    private static void ownBetweenAlone() {
        due.of("an OWN one of these (who sit between)");
        PassTheSalt x = Due.laid("d4;g1,0,0;w9000;g0,1,0;g1,2,0;w0090;g1,3,0;w9999;");
        x.ask(0, 2);
        due.lies("neither who asks, nor who is asked, nor who sits beyond", x, "2103");
    }

    private static void worthMore() {
        due.of("to whom it is worth more .. than what is before him");
        String[] worths = {"450", "550", "650", "090", "980", "890"};
        String[] want = {"210", "210", "201", "210", "201", "210"};
        for (int k = 0; k < worths.length; k++) {
            PassTheSalt x = Due.laid("d3;g0,0,0;g1,1,0;w" + worths[k] + ";g0,2,0;");
            x.ask(0, 2);
            due.lies("by w" + worths[k], x, want[k]);
        }
        due.of("to whom it is worth more: on the way back, too");
        worths = new String[] {"054", "055", "056"};
        want = new String[] {"210", "210", "120"};
        for (int k = 0; k < worths.length; k++) {
            PassTheSalt x = Due.laid("d3;g0,0,0;g1,1,0;w" + worths[k] + ";g0,2,0;");
            x.ask(0, 2);
            due.lies("by w" + worths[k], x, want[k]);
        }
    }

    private static void notCold() {
        due.of("worth more (not cold)");
        PassTheSalt x = Due.laid("d3;g0,0,0;g1,1,0;w654;g0,2,0;c9;");
        x.ask(2, 1);
        due.is("all is cold", x.evening(), 0);
        due.is("ask(0, 2)", x.ask(0, 2), 1);
        due.lies("kept all the same", x, "102");
    }

    private static void nothingIsWorth0() {
        due.of("(nothing is worth 0)");
        PassTheSalt x = Due.laid("d2;g0,0,0;g1,9,0;w00;g0,1,0;");
        x.ask(0, 2);
        due.lies("0 is not more", x, "1-0");
        x = Due.laid("d2;g0,0,0;g1,9,0;w10;g0,1,0;");
        x.ask(0, 2);
        due.lies("1 is more", x, "10-");
    }

    private static void nothingGoesOn() {
        due.of("and what was before him, if anything, goes on in place of it");
        PassTheSalt x = Due.laid("d3;g0,0,0;g1,9,0;w100;g1,2,0;w000;g0,1,0;");
        due.is("ask(0, 3)", x.ask(0, 3), 1);
        due.lies("kept by 1, nothing goes past 2", x, "102-");
        x = Due.laid("d3;g0,0,0;g1,9,0;w100;g1,9,0;w000;g0,1,0;");
        due.is("nothing past nothing", x.ask(0, 3), 1);
        due.lies("then", x, "10--");
    }

    private static void nothingComes() {
        due.of("What comes to j is before him then; ask: the DISH before i then (NONE)");
        PassTheSalt x = Due.laid("d2;g0,0,0;g1,9,0;w05;g0,1,0;");
        due.is("ask(0, 2)", x.ask(0, 2), NONE);
        due.lies("to i nothing", x, "-10");
        x = Due.laid("d2;g0,0,0;g1,9,0;g1,9,0;g0,1,0;");
        due.is("ask(0, 3)", x.ask(0, 3), NONE);
        due.lies("to both nothing", x, "-01-");
        due.is("though it was an asking", x.count(3), 1);
        due.is("and took minutes", x.count(2), 3);
        due.is("they can not ask", x.ask(0, 3), NO);
        due.is("nor be", x.ask(1, 0), NO);
    }

    private static void minutes() {
        due.of("HANDS are the MINUTES that go by");
        PassTheSalt x = Due.laid("d6;g0,0,0;g0,1,0;g0,2,0;g0,3,0;g0,4,0;g0,5,0;");
        int sum = 0;
        for (int i = 0; i < 6; i++) {
            for (int j = 0; j < 6; j++) {
                x.ask(i, j);
                sum += Math.abs(i - j);
                due.is(i + " asks " + j, x.count(2), sum);
            }
        }
        x = Due.laid("d6;g0,0,0;g0,1,0;g0,2,0;g0,3,0;g0,4,0;g0,5,0;r1;");
        x.ask(0, 5);
        due.is("round the ring", x.count(2), 1);
        x.ask(0, 3);
        due.is("through half of it", x.count(2), 4);
    }

    private static void childWhoAsks() {
        due.of("Then i, if he is a CHILD, .. changes what is before him with what is before the next one to the right");
        PassTheSalt x = Due.laid("d3;g0,0,0;g3,1,0;g0,2,0;");
        due.is("ask(1, 0)", x.ask(1, 0), 2);
        due.lies("then", x, "120");
        x = Due.laid("d3;g3,0,0;g0,1,0;g0,2,0;");
        due.is("ask(0, 2)", x.ask(0, 2), 1);
        due.lies("then", x, "120");
    }

    private static void childWhoIsAsked() {
        due.of("and then j, if he is");
        PassTheSalt x = Due.laid("d3;g0,0,0;g3,1,0;g0,2,0;");
        due.is("ask(0, 1)", x.ask(0, 1), 1);
        due.lies("then", x, "120");
        x = Due.laid("d3;g3,0,0;g0,1,0;g0,2,0;");
        due.is("ask(1, 0)", x.ask(1, 0), 1);
        due.lies("what comes goes back", x, "012");
    }

    private static void childrenInOrder() {
        due.of("Then i .. and then j");
        PassTheSalt x = Due.laid("d3;g3,0,0;g3,1,0;g0,2,0;");
        due.is("ask(0, 1)", x.ask(0, 1), 0);
        due.lies("0 first", x, "021");
        x = Due.laid("d3;g3,0,0;g3,1,0;g0,2,0;");
        due.is("ask(1, 0)", x.ask(1, 0), 1);
        due.lies("1 first", x, "210");
    }

    private static void childWithNothing() {
        due.of("before whom a DISH is");
        PassTheSalt x = Due.laid("d2;g3,0,0;g1,9,0;w05;g0,1,0;");
        due.is("nothing came back", x.ask(0, 2), NONE);
        due.lies("i changes nothing", x, "-10");
        x = Due.laid("d3;g0,0,0;g1,9,0;g3,1,0;g0,2,0;");
        due.is("nothing came", x.ask(0, 2), 1);
        due.lies("j changes nothing", x, "10-2");
    }

    private static void childNextToNothing() {
        due.of("with what is before the next one to the right (nothing, too)");
        PassTheSalt x = Due.laid("d2;g0,0,0;g3,1,0;g0,9,0;");
        due.is("ask(0, 1)", x.ask(0, 1), 1);
        due.lies("j has nothing then", x, "1-0");
        x = Due.laid("d2;g0,0,0;g3,1,0;g0,9,0;");
        due.is("ask(1, 0)", x.ask(1, 0), NONE);
        due.lies("i has nothing then", x, "1-0");
    }

    private static void childAtTheEndOfRow() {
        due.of("(not the last of a ROW)");
        PassTheSalt x = Due.laid("d3;g0,0,0;g0,1,0;g3,2,0;");
        due.is("he asks", x.ask(2, 1), 1);
        due.lies("then", x, "021");
        due.is("he is asked", x.ask(0, 2), 1);
        due.lies("then", x, "120");
        x = Due.laid("d2;g0,0,0;g3,1,0;");
        due.is("of two", x.ask(0, 1), 1);
        due.lies("then", x, "10");
    }

    private static void childAtTheEndOfRing() {
        due.of("the next one to the right, in a RING 0 behind the last");
        PassTheSalt x = Due.laid("d3;g0,0,0;g0,1,0;g3,2,0;r1;");
        due.is("he asks", x.ask(2, 1), 0);
        due.lies("then", x, "120");
        due.is("he is asked", x.ask(1, 2), 0);
        due.lies("then", x, "201");
        x = Due.laid("d2;g0,0,0;g3,1,0;r1;");
        due.is("of two", x.ask(0, 1), 0);
        due.lies("then", x, "01");
    }

    private static void childBetween() {
        due.of("i, if he is a CHILD, and then j: none else");
        PassTheSalt x = Due.laid("d4;g0,0,0;g3,1,0;g0,2,0;g3,3,0;");
        due.is("ask(0, 2)", x.ask(0, 2), 2);
        due.lies("neither between nor beyond", x, "2103");
    }

    private static void had() {
        due.of("Each has HAD what is before him then");
        PassTheSalt x = Due.laid("d3;g3,0,0;g0,1,0;g0,2,0;");
        x.ask(0, 1);
        due.lies("all is back", x, "012");
        due.is("not what was before i in between", x.guest(0, 3), 1);
        due.is("nor what was before j", x.guest(1, 3), 2);
        x.ask(1, 2);
        due.is("who asked", x.guest(1, 3), 6);
        due.is("who was asked", x.guest(2, 3), 6);
        due.is("who had no part", x.guest(0, 3), 1);
        x = Due.laid("d3;g0,0,0;g1,1,0;w519;g0,2,0;");
        x.ask(0, 2);
        due.is("he between, not what he kept for a while", x.guest(1, 3), 6);
        due.is("not what he passed with his own hands", x.guest(0, 3), 1);
        x = Due.laid("d3;g0,0,0;g3,1,0;g0,2,0;");
        x.ask(0, 1);
        due.is("the next one to the right of a CHILD", x.guest(2, 3), 5);
        due.is("the CHILD", x.guest(1, 3), 6);
    }

    private static void hadAsLaid() {
        due.of("Each has HAD what is before him (.. as LAID)");
        PassTheSalt x = Due.laid("d6;g0,5,0;g0,9,0;g0,0,0;");
        due.is("dish 5", x.guest(0, 3), 32);
        due.is("nothing", x.guest(1, 3), 0);
        due.is("dish 0", x.guest(2, 3), 1);
        x.ask(0, 2);
        due.is("as laid, too", x.guest(0, 3), 33);
        due.is("nothing still", x.guest(1, 3), 0);
    }

    private static void guestBad() {
        due.of("guest: BAD");
        PassTheSalt x = Due.laid(guests(2));
        int[] none = {-1, 2, 3, 5, 6, Integer.MIN_VALUE, Integer.MAX_VALUE};
        int[] what = {-1, 4, 5, Integer.MIN_VALUE, Integer.MAX_VALUE};
        for (int i : none) {
            for (int w = 0; w < 4; w++) {
                due.is("guest(" + i + ", " + w + ")", x.guest(i, w), BAD);
            }
        }
        for (int w : what) {
            due.is("guest(0, " + w + ")", x.guest(0, w), BAD);
            due.is("guest(1, " + w + ")", x.guest(1, w), BAD);
        }
        due.of("the DISH before him (1; NONE)");
        due.is("guest(0, 1)", x.guest(0, 1), NONE);
    }

    private static void undoNone() {
        due.of("undo: NO");
        PassTheSalt x = new PassTheSalt();
        due.is("of a new one", x.undo(), NO);
        x.ask(0, 0);
        x.ask(0, 3);
        due.is("refused askings can not be", x.undo(), NO);
        x.ask(0, 1);
        due.is("one can be", x.undo(), 0);
        due.is("no more", x.undo(), NO);
        due.lies("as LAID", x, "012");
    }

    private static void undoLastEight() {
        due.of("UNDONE is the latest asking (the last 8 can be)");
        for (int askings = 7; askings <= 10; askings++) {
            PassTheSalt x = new PassTheSalt();
            String[] lies = new String[askings + 1];
            String[] had = new String[askings + 1];
            lies[0] = "012";
            had[0] = hadBy(x);
            for (int k = 0; k < askings; k++) {
                x.ask(k % 2, k % 2 + 1);
                due.is("count(3) behind " + (k + 1), x.count(3), Math.min(k + 1, 8));
                lies[k + 1] = Due.lieOf(x);
                had[k + 1] = hadBy(x);
            }
            int can = Math.min(askings, 8);
            for (int k = 1; k <= can; k++) {
                due.is("undo " + k + " of " + askings, x.undo(), can - k);
                due.lies("undone " + k + " of " + askings, x, lies[askings - k]);
                due.same("had, undone " + k + " of " + askings, hadBy(x), had[askings - k]);
                due.is("minutes", x.count(2), askings - k);
            }
            due.is("one more of " + askings, x.undo(), NO);
            due.lies("one more changes nothing", x, lies[askings - can]);
        }
    }

    private static String hadBy(PassTheSalt x) {
        StringBuilder had = new StringBuilder();
        for (int i = 0; i < x.count(0); i++) {
            had.append(' ').append(x.guest(i, 3));
        }
        return had.toString();
    }

    private static void undoThenAskAgain() {
        due.of("UNDONE .. (the last 8 can be), asked again behind it");
        PassTheSalt x = new PassTheSalt();
        for (int k = 0; k < 9; k++) {
            x.ask(0, 1);
        }
        for (int k = 0; k < 3; k++) {
            x.undo();
        }
        due.is("five are left", x.count(3), 5);
        for (int k = 0; k < 3; k++) {
            x.ask(0, 2);
        }
        due.is("eight", x.count(3), 8);
        x.ask(0, 2);
        due.is("eight still", x.count(3), 8);
        for (int left = 7; left >= 0; left--) {
            due.is("undo", x.undo(), left);
        }
        due.is("two of the first are not", x.count(2), 2);
        due.is("no more", x.undo(), NO);
    }

    private static void undoTakesAllBack() {
        due.of("UNDONE is the latest asking: how dishes lay, what was HAD, MINUTES");
        PassTheSalt x = Due.laid("d4;g3,0,0;g1,1,0;w9195;g0,2,0;g3,3,0;r1;");
        x.ask(0, 2);
        String was = Whole.of(x);
        x.ask(3, 1);
        x.undo();
        due.same("all that can be seen", Whole.of(x), was);
    }

    private static void undoLeaves() {
        due.of("UNDONE is the latest asking: neither THE TEXT nor what is KEPT");
        PassTheSalt x = Due.laid("g0,0,0;g0,1,0;");
        x.ask(0, 1);
        x.keep();
        Due.write(x, "r1;");
        x.undo();
        due.is("kept", x.count(4), 1);
        due.is("bytes", x.count(5), 17);
        x.back();
        due.lies("as kept", x, "10");
    }

    private static void worthAtMinute() {
        due.of("worth to him, times 10 less C t (0 at least), by 10, cut");
        PassTheSalt x = Due.laid("d6;g0,0,0;w013579;g0,1,0;c3;");
        int[][] want = {{0, 1, 3, 5, 7, 9}, {0, 0, 2, 3, 4, 6}, {0, 0, 1, 2, 2, 3}, {0, 0, 0, 0, 0, 0}, {0, 0, 0, 0, 0, 0}};
        for (int t = 0; t < want.length; t++) {
            for (int d = 0; d < 6; d++) {
                due.is("worth(0, " + d + ", " + t + ")", x.worth(0, d, t), want[t][d]);
            }
        }
        due.of("times 10 less C t (0 at least)");
        x = Due.laid("d1;g0,0,0;w9;g0,9,0;c5;");
        due.is("C t is 5", x.worth(0, 0, 1), 4);
        due.is("C t is 10", x.worth(0, 0, 2), 0);
        due.is("C t is 15", x.worth(0, 0, 3), 0);
        due.is("C t is 495", x.worth(0, 0, 99), 0);
        due.of("DISHES lose no tenth (c0;)");
        due.is("at 99", Due.laid("d1;g0,0,0;w9;g0,9,0;c0;").worth(0, 0, 99), 9);
        due.of("What a DISH is worth .. at MINUTE t, whatever MINUTE is");
        x = Due.laid("d2;g0,0,0;w99;g0,1,0;");
        x.ask(0, 1);
        due.is("at 0", x.worth(0, 0, 0), 9);
        due.is("at 1", x.worth(0, 0, 1), 8);
    }

    private static void worthBad() {
        due.of("worth: MINUTE t (0 to 99). BAD");
        PassTheSalt x = Due.laid("d4;g0,0,0;w9999;g0,1,0;c0;");
        int[] noMinute = {-1, 100, 101, Integer.MIN_VALUE, Integer.MAX_VALUE};
        for (int t : noMinute) {
            due.is("worth(0, 0, " + t + ")", x.worth(0, 0, t), BAD);
        }
        for (int t = 0; t < 100; t++) {
            due.is("worth(0, 0, " + t + ")", x.worth(0, 0, t), 9);
        }
        due.of("worth: BAD");
        int[] noDish = {-1, 4, 5, 6, 7, 9, Integer.MIN_VALUE, Integer.MAX_VALUE};
        for (int d : noDish) {
            due.is("worth(0, " + d + ", 0)", x.worth(0, d, 0), BAD);
        }
        int[] noGuest = {-1, 2, 5, 6, Integer.MIN_VALUE, Integer.MAX_VALUE};
        for (int i : noGuest) {
            due.is("worth(" + i + ", 0, 0)", x.worth(i, 0, 0), BAD);
        }
        due.is("the last of each", x.worth(1, 3, 99), 1);
    }

    private static void eveningEachCut() {
        due.of("EVENING: what all GUESTS have before them is worth to them together at the MINUTE that is");
        PassTheSalt x = Due.laid("d2;g0,0,0;w79;g0,1,0;w79;c5;");
        due.is("not cold", x.evening(), 16);
        x.ask(0, 1);
        due.is("9 and 7 by half, each cut", x.evening(), 7);
        x.undo();
        due.is("undone", x.evening(), 16);
    }

    private static void eveningNotBelow0() {
        due.of("EVENING: (0 at least)");
        PassTheSalt x = Due.laid("d2;g0,0,0;w99;g0,1,0;w99;c9;");
        x.ask(0, 1);
        due.is("one tenth, cut", x.evening(), 0);
        for (int k = 0; k < 150; k++) {
            x.ask(0, 1);
            due.is("cold", x.evening(), 0);
        }
        due.is("minutes go on beyond 99", x.count(2), 151);
        x = Due.laid("d2;g0,0,0;w99;g0,1,0;w99;c0;");
        for (int k = 0; k < 150; k++) {
            x.ask(0, 1);
        }
        due.is("never cold", x.evening(), 18);
    }

    private static void eveningOfNothing() {
        due.of("EVENING: nothing is worth 0");
        due.is("no dish", Due.laid("g0,9,0;w999;g0,9,0;w999;").evening(), 0);
        due.is("one dish", Due.laid("g0,9,0;w999;g0,2,0;w994;").evening(), 4);
        due.is("the most there is", Due.laid("d6;g0,0,0;w999999;g0,1,0;w999999;g0,2,0;w999999;g0,3,0;w999999;"
                + "g0,4,0;w999999;g0,5,0;w999999;").evening(), 54);
    }
}
