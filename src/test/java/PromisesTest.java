/** Each promise by answers worked out by hand: ordinary inputs, edges, wrong inputs. */
public final class PromisesTest {
    private static final int BAD = PassTheSalt.BAD, NO = PassTheSalt.NO;
    private static final int FULL = PassTheSalt.FULL, NONE = PassTheSalt.NONE;
    private static final Due due = new Due();

    public static void main(String[] args) {
        p1New();
        p2Write();
        p3Wipe();
        p4Fault();
        p5Lay();
        p6Guest();
        p7Worth();
        p8Hands();
        p9Ask();
        p9AskChild();
        p10Undo();
        p11Evening();
        p12Need();
        p13First();
        p14Price();
        p15Never();
        p16Stuck();
        p17Rest();
        p18HoldsUp();
        p19Liked();
        p20Most();
        p21Seats();
        p22Went();
        p23Drawn();
        p24Keep();
        p25Back();
        p26Count();
        due.end();
    }

    private static void p1New() {
        PassTheSalt x = new PassTheSalt();
        due.lies("new", x, "012");
        int[] wants = {2, 4, 1};
        for (int i = 0; i < 3; i++) {
            due.is("new kind", x.guest(i, 0), 0);
            due.is("new wants", x.guest(i, 2), wants[i]);
            due.is("new had", x.guest(i, 3), 1 << i);
            for (int d = 0; d < 3; d++) {
                due.is("new worth", x.worth(i, d, 0), 1);
            }
        }
        int[] counts = {3, 3, 0, 0, 0, 0, 0};
        for (int what = 0; what < counts.length; what++) {
            due.is("new count(" + what + ")", x.count(what), counts[what]);
        }
        due.is("new fault", x.fault(), NONE);
        due.is("new lay", x.lay(), NO);
        due.lies("new, lay was NO", x, "012");
        due.is("new undo", x.undo(), NO);
        due.is("new back", x.back(), NO);
    }

    private static void p2Write() {
        PassTheSalt x = new PassTheSalt();
        int[] bad = {0, -1, 9, Integer.MAX_VALUE, Integer.MIN_VALUE};
        for (int n : bad) {
            due.is("write(" + n + ")", x.write(n, 'd'), BAD);
        }
        due.is("nothing written", x.count(5), 0);
        due.is("write 1 of many bytes", x.write(1, 0x31323364L), 1);
        due.is("write 2", x.write(2, 0x7fff00000000333bL), 3);
        due.is("d3; is told", x.fault(), NONE);
        due.is("write 8, below 0", x.write(8, -1L), 11);
        due.is("bytes of 255", x.fault(), 3);
        x.wipe();
        for (int k = 1; k <= 37; k++) {
            due.is("write 8", x.write(8, 0), 8 * k);
        }
        due.is("write 5 on 296", x.write(5, 0), FULL);
        due.is("FULL writes nothing", x.count(5), 296);
        due.is("write 4 on 296", x.write(4, 0), 300);
        due.is("write 1 on 300", x.write(1, 0), FULL);
        due.is("BAD ahead of FULL", x.write(9, 0), BAD);
        due.is("300 bytes", x.count(5), 300);
    }

    private static void p3Wipe() {
        PassTheSalt x = Due.told("d2;");
        due.is("wipe", x.wipe(), 3);
        due.is("wipe again", x.wipe(), 0);
        due.is("wiped", x.count(5), 0);
        due.is("no fault is left", x.fault(), NONE);
        Due.write(x, "g0,0,0;g0,1,0;");
        x.lay();
        due.is("wipe behind lay", x.wipe(), 14);
        due.lies("the table stays", x, "01");
    }

    private static void p4Fault() {
        String[] fine = {"", "d1;", "d6;", "d06;", "d2;d4;g0,3,0;", "r0;r1;", "r01;", "s99;s0;", "s09;", "c9;c0;", "c09;",
            "g0,9,0;", "g0,09,00;", "g3,2,7;", "d6;g0,5,63;", "g0,0,0;w123;w321;", "r1;d1;g0,0,1;w9;g0,9,0;w0;",
            "d2;g1,1,3;w90;s4;c3;r1;", "g0,0,0;g0,1,0;g0,2,0;g0,9,0;g0,9,0;g0,9,0;"};
        for (String text : fine) {
            due.is("fault of " + text, Due.told(text).fault(), NONE);
        }
        String[] first = {"d", "d1", "d;", "d0;", "d7;", "d10;", "d006;", "d1,;", "d1,2;", "d,1;", ";", "1;", " ", "D3;", "x1;",
            "r2;", "r;", "r001;", "s100;", "s;", "s-1;", "c10;", "c;", "g0,3,0;", "g0,6,0;", "g0,8,0;", "g0,10,0;", "g4,0,0;",
            "g0,0,8;", "g0,0,64;", "g0,0;", "g0,0,0,0;", "g0,0,;", "g,0,0;", "g0 ,0,0;", "g0;0;0;", "g0,0,0", "g000,0,0;",
            "w111;", "w;", "\u0000", "\u00ff", "d3,"};
        for (String text : first) {
            due.is("fault of " + text, Due.told(text).fault(), 0);
        }
        String[] later = {"d1;g0,1,0;", "d1;g0,0,2;", "d6;g0,0,64;", "d2;;", "d2; d2;", "s1;w111;", "r1;d0;", "c1;x;", "s1;g0,0,0",
            "d5;g0,5,0;"};
        for (String text : later) {
            due.is("fault of " + text, Due.told(text).fault(), 3);
        }
        String[] behindGuest = {"g0,0,0;g0,0,0;", "g0,0,0;d3;", "g0,0,0;w11;", "g0,0,0;w1111;", "g0,0,0;w12a;", "g0,0,0;w1,1,1;",
            "g0,0,0;w111", "g0,0,0;w", "g0,0,0; ", "g0,9,0;g4,0,0;", "g0,0,0;w11;w111;"};
        for (String text : behindGuest) {
            due.is("fault of " + text, Due.told(text).fault(), 7);
        }
        due.is("a seventh guest", Due.told("g0,9,0;g0,9,0;g0,9,0;g0,9,0;g0,9,0;g0,9,0;w111;g0,9,0;").fault(), 47);
        PassTheSalt x = Due.told("d2;g0,0,1;");
        x.fault();
        x.fault();
        Due.write(x, "w12;");
        due.is("asked for again and again", x.fault(), NONE);
        due.lies("fault lays nothing", x, "012");
    }

    private static void p5Lay() {
        PassTheSalt x = Due.told("g0,0,0;");
        due.is("one guest", x.lay(), NO);
        Due.write(x, "g0,0,0;");
        due.is("a fault", x.lay(), NO);
        due.lies("NO changes nothing", x, "012");
        x.ask(0, 2);
        x.keep();
        due.is("NO leaves minutes", x.lay(), NO);
        due.is("minutes", x.count(2), 2);
        due.is("undoable", x.count(3), 1);
        due.is("kept", x.count(4), 1);
        x.wipe();
        Due.write(x, "d4;g1,3,9;g2,9,0;");
        due.is("lay", x.lay(), 2);
        due.lies("laid", x, "3-");
        int[] counts = {2, 4, 0, 0, 0, 17, 0};
        for (int what = 0; what < counts.length; what++) {
            due.is("laid count(" + what + ")", x.count(what), counts[what]);
        }
        due.is("had as laid", x.guest(0, 3), 8);
        due.is("had nothing", x.guest(1, 3), 0);
        Due.write(x, "g0,0,0;r1;");
        due.is("more told, not laid", x.count(0), 2);
        due.is("laid again", x.lay(), 3);
        due.is("a ring", x.count(6), 1);
        x.wipe();
        Due.write(x, "g0,0,0;w555;g0,1,0;");
        x.lay();
        x.wipe();
        Due.write(x, "g0,0,0;g0,1,0;");
        x.lay();
        due.is("worth is 1 again", x.worth(0, 0, 0), 1);
        due.is("a row again", x.count(6), 0);
    }

    private static void p6Guest() {
        PassTheSalt x = Due.laid("d6;g0,5,63;g1,9,0;g2,0,32;g3,1,1;");
        int[][] want = {{0, 5, 63, 32}, {1, NONE, 0, 0}, {2, 0, 32, 1}, {3, 1, 1, 2}};
        for (int i = 0; i < 4; i++) {
            for (int what = 0; what < 4; what++) {
                due.is("guest(" + i + ", " + what + ")", x.guest(i, what), want[i][what]);
            }
            due.is("what = 4", x.guest(i, 4), BAD);
            due.is("what = -1", x.guest(i, -1), BAD);
        }
        due.is("guest(4, 0)", x.guest(4, 0), BAD);
        due.is("guest(-1, 0)", x.guest(-1, 0), BAD);
        x.ask(0, 2);
        due.is("HOLD is not asked, had", x.guest(0, 3), 32);
        x.ask(2, 0);
        due.is("had of 0, to whom nothing came", x.guest(0, 3), 32);
        due.lies("taken between", x, "-051");
        due.is("had of 1, who sits between with nothing and takes it", x.guest(1, 3), 1);
        due.is("had of 2", x.guest(2, 3), 33);
    }

    private static void p7Worth() {
        PassTheSalt x = Due.laid("d2;g0,0,0;w97;g0,1,0;c3;");
        int[] nine = {9, 6, 3, 0, 0};
        int[] seven = {7, 4, 2, 0, 0};
        for (int t = 0; t < 5; t++) {
            due.is("9 at " + t, x.worth(0, 0, t), nine[t]);
            due.is("7 at " + t, x.worth(0, 1, t), seven[t]);
        }
        due.is("1 at 0", x.worth(1, 0, 0), 1);
        due.is("1 at 1", x.worth(1, 0, 1), 0);
        due.is("9 at 99", x.worth(0, 0, 99), 0);
        due.is("minute 100", x.worth(0, 0, 100), BAD);
        due.is("minute -1", x.worth(0, 0, -1), BAD);
        due.is("no such dish", x.worth(0, 2, 0), BAD);
        due.is("dish -1", x.worth(0, -1, 0), BAD);
        due.is("no such guest", x.worth(2, 0, 0), BAD);
        due.is("guest -1", x.worth(-1, 0, 0), BAD);
        int[] without = {9, 8, 7, 6, 5, 4, 3, 2, 1, 0, 0};
        for (int t = 0; t < without.length; t++) {
            due.is("9 without c at " + t, Due.laid("g0,0,0;w900;g0,1,0;").worth(0, 0, t), without[t]);
        }
        due.is("never cold", Due.laid("g0,0,0;w900;g0,1,0;c0;").worth(0, 0, 99), 9);
        due.is("cold at once", Due.laid("g0,0,0;w900;g0,1,0;c9;").worth(0, 0, 1), 0);
    }

    private static void p8Hands() {
        PassTheSalt row = Due.laid("g0,9,0;g0,9,0;g0,9,0;g0,9,0;g0,9,0;");
        PassTheSalt ring = Due.laid("g0,9,0;g0,9,0;g0,9,0;g0,9,0;g0,9,0;r1;");
        int[] inRing = {0, 1, 2, 2, 1};
        for (int i = 0; i < 5; i++) {
            for (int j = 0; j < 5; j++) {
                due.is("row hands", row.hands(i, j), Math.abs(i - j));
                due.is("ring hands", ring.hands(i, j), inRing[(j - i + 5) % 5]);
            }
        }
        due.is("hands(0, 5)", row.hands(0, 5), BAD);
        due.is("hands(5, 0)", row.hands(5, 0), BAD);
        due.is("hands(-1, 0)", ring.hands(-1, 0), BAD);
        due.is("hands(7, 7)", ring.hands(7, 7), BAD);
        due.is("a ring of two", Due.laid("g0,0,0;g0,1,0;r1;").hands(1, 0), 1);
    }

    private static void p9Ask() {
        String ring = "d4;g0,0,0;g1,1,0;w9111;g0,2,0;g1,3,0;w9111;r1;";
        PassTheSalt x = Due.laid(ring);
        due.is("alike ways: by the right", x.ask(0, 2), 2);
        due.lies("one put in", x, "2013");
        due.is("minutes", x.count(2), 2);
        x = Due.laid(ring);
        due.is("back: by the right too", x.ask(2, 0), 3);
        due.lies("one put in on the way back", x, "2130");
        due.is("had by him between", x.guest(3, 3), 9);
        x = Due.laid("d4;g0,0,0;g1,1,0;w9111;g0,2,0;g1,3,0;w9111;");
        due.is("in a row the only way", x.ask(2, 0), 1);
        due.lies("in a row", x, "2013");

        x = Due.laid("d5;g0,0,0;g1,1,0;w91111;g1,2,0;w91111;g0,3,0;g1,4,0;w91111;r1;");
        due.is("the shorter way, by the left", x.ask(0, 3), 3);
        due.lies("past 4 alone", x, "31240");
        due.is("as many minutes", x.count(2), 2);
        due.is("the shorter way, by the right", x.ask(3, 0), 3);
        due.lies("past 4 again", x, "41230");

        x = Due.laid("d2;g0,0,0;g1,9,0;g0,1,0;");
        due.is("kept where nothing was", x.ask(0, 2), 1);
        due.lies("nothing goes on", x, "10-");
        due.is("nothing before the one asked", x.ask(0, 2), NO);
        due.is("nothing before the one who asks", x.ask(2, 0), NO);
        due.is("minutes stay", x.count(2), 2);
        x = Due.laid("d2;g0,0,0;g1,9,0;w00;g0,1,0;");
        due.is("worth 0 is not more than nothing", x.ask(0, 2), 1);
        due.lies("all goes past", x, "1-0");
        x = Due.laid("d2;g0,0,0;g1,9,0;w05;g0,1,0;");
        due.is("nothing comes back", x.ask(0, 2), NONE);
        due.lies("kept on the way back", x, "-10");
        x = Due.laid("d3;g1,0,0;w091;g0,1,0;g1,2,0;w190;c9;");
        due.is("the two ends put nothing in", x.ask(0, 2), 2);
        due.lies("the two ends", x, "210");
        due.is("cold by now, but worth as not cold", x.ask(1, 2), 0);

        x = Due.laid("d2;g2,0,0;g0,1,0;");
        due.is("a HOLD is not asked", x.ask(1, 0), NO);
        due.is("a HOLD asks", x.ask(0, 1), 1);
        due.is("who asks himself", x.ask(1, 1), NO);
        due.is("ask(0, 2)", x.ask(0, 2), BAD);
        due.is("ask(2, 0)", x.ask(2, 0), BAD);
        due.is("ask(-1, -1)", x.ask(-1, -1), BAD);
        due.is("BAD changes nothing", x.count(3), 1);
    }

    private static void p9AskChild() {
        String three = "d3;g3,0,0;g0,1,0;g3,2,0;";
        PassTheSalt x = Due.laid(three);
        due.is("a CHILD changes back", x.ask(0, 1), 0);
        due.lies("as before", x, "012");
        due.is("though it was asked", x.count(3), 1);
        due.is("had only what is there then", x.guest(0, 3), 1);
        due.is("the last of a row does not", x.ask(0, 2), 1);
        due.lies("a row", x, "120");
        x = Due.laid(three + "r1;");
        due.is("in a ring he does", x.ask(0, 2), 0);
        due.lies("a ring", x, "021");
        x = Due.laid("d2;g3,0,0;g1,9,0;w05;g0,1,0;");
        due.is("a CHILD with nothing", x.ask(0, 2), NONE);
        due.lies("changes nothing", x, "-10");
        x = Due.laid("d2;g0,0,0;g3,1,0;g0,9,0;");
        due.is("who is asked changes too", x.ask(0, 1), 1);
        due.lies("with nothing, too", x, "1-0");
    }

    private static void p10Undo() {
        PassTheSalt x = new PassTheSalt();
        due.is("nothing", x.undo(), NO);
        for (int k = 0; k < 10; k++) {
            x.ask(0, 1);
        }
        due.is("eight at most", x.count(3), 8);
        due.is("minutes", x.count(2), 10);
        due.is("had", x.guest(0, 3), 3);
        for (int left = 7; left >= 0; left--) {
            due.is("undo", x.undo(), left);
            due.is("minutes go back", x.count(2), 2 + left);
            due.is("dishes go back", x.guest(0, 1), left % 2);
        }
        due.is("no more", x.undo(), NO);
        x = new PassTheSalt();
        x.ask(0, 2);
        x.undo();
        due.lies("undone", x, "012");
        due.is("had goes back", x.guest(0, 3), 1);
        x.ask(0, 0);
        due.is("NO is no asking", x.undo(), NO);
    }

    private static void p11Evening() {
        PassTheSalt x = Due.laid("d3;g0,0,0;w975;g0,1,0;w246;g1,9,0;w999;c2;");
        due.is("at first", x.evening(), 13);
        x.ask(0, 1);
        due.is("7 and 2, at 8 tenths, each cut", x.evening(), 6);
        x.undo();
        due.is("undone", x.evening(), 13);
        for (int k = 0; k < 5; k++) {
            x.ask(0, 1);
        }
        due.is("cold", x.evening(), 0);
        x.ask(0, 1);
        due.is("not below 0", x.evening(), 0);
    }

    private static void p12Need() {
        PassTheSalt x = Due.laid("d3;g0,0,0;g2,1,0;g0,9,0;");
        due.is("before him", x.need(0, 0), 0);
        due.is("by whom he can not ask", x.need(0, 1), 1);
        due.is("nowhere", x.need(0, 2), NONE);
        due.is("with nothing before him", x.need(2, 0), NONE);
        due.is("need(3, 0)", x.need(3, 0), BAD);
        due.is("need(0, 3)", x.need(0, 3), BAD);
        due.is("need(-1, 0)", x.need(-1, 0), BAD);
        due.is("need(0, -1)", x.need(0, -1), BAD);
        x.ask(1, 0);
        due.is("from now on", x.need(0, 0), 1);
        due.is("it is there", x.need(0, 1), 0);
        x.undo();
        due.is("undone", x.need(0, 1), 1);
        x = Due.laid("d3;g2,0,0;g0,1,0;g2,2,0;");
        due.is("by way of another", x.need(0, 2), 2);
    }

    private static void p13First() {
        PassTheSalt x = Due.laid("d3;g2,0,0;g0,1,0;g2,2,0;");
        due.is("first", x.first(0, 2), 21);
        due.is("first of one", x.first(0, 1), 1);
        due.is("need is 0", x.first(0, 0), NONE);
        due.is("first(3, 0)", x.first(3, 0), BAD);
        due.is("first(0, 3)", x.first(0, 3), BAD);
        due.is("first(-1, -1)", x.first(-1, -1), BAD);
        due.is("the least, 02 ahead of 20", new PassTheSalt().first(2, 0), 2);
        due.is("none", Due.laid("d3;g0,0,0;g0,1,0;").first(0, 2), NONE);
        due.is("with need", x.need(0, 2), 2);
        x.ask(2, 1);
        due.is("the second", x.first(0, 2), 1);
    }

    private static void p14Price() {
        String four = "d4;g0,0,0;g0,1,0;g0,2,0;g0,3,0;";
        due.is("by hands", Due.laid(four).price(0, 3), 3);
        due.is("9 without s", Due.laid("d2;g2,0,0;g2,1,0;").price(0, 1), 9);
        due.is("by the servant", Due.laid(four + "s2;").price(0, 3), 2);
        due.is("alike", Due.laid(four + "s3;").price(0, 3), 3);
        due.is("for nothing", Due.laid(four + "s0;").price(0, 3), 0);
        due.is("in a ring", Due.laid(four + "r1;").price(0, 3), 1);
        PassTheSalt x = Due.laid("d3;g2,0,0;g2,1,0;g0,9,0;s99;");
        due.is("before him", x.price(0, 0), 0);
        due.is("the servant passes for a HOLD", x.price(0, 1), 99);
        due.is("and nothing, too", x.price(2, 0), 99);
        due.is("nowhere", x.price(0, 2), NONE);
        due.is("price(3, 0)", x.price(3, 0), BAD);
        due.is("price(0, 3)", x.price(0, 3), BAD);
        due.is("price(0, -1)", x.price(0, -1), BAD);
        due.is("price(-1, 0)", x.price(-1, 0), BAD);
        x = Due.laid("d3;g2,0,0;g0,1,0;g2,2,0;s99;");
        due.is("two askings", x.price(0, 2), 2);
        // 0 has 2 by asking 2 himself for two hands only if 1, an OWN one, lets it by.
        x = Due.laid("d3;g0,0,0;g1,1,0;w119;g0,2,0;s99;");
        due.is("past an OWN one", x.price(0, 2), 2);
    }

    private static void p15Never() {
        PassTheSalt x = Due.laid("d4;g2,0,0;g2,1,0;g0,9,0;");
        due.is("never(0)", x.never(0), 14);
        due.is("never(1)", x.never(1), 13);
        due.is("never(2)", x.never(2), 15);
        due.is("never(3)", x.never(3), BAD);
        due.is("never(-1)", x.never(-1), BAD);
        due.is("all can be had", new PassTheSalt().never(1), 0);
        due.is("a dish that is nowhere", Due.laid("g0,0,0;g0,1,0;").never(1), 4);
    }

    private static void p16Stuck() {
        due.is("two HOLDs", Due.laid("d2;g2,0,0;g2,1,0;").stuck(), 1);
        due.is("one", Due.laid("d2;g2,0,0;g0,1,0;").stuck(), 0);
        due.is("one dish", Due.laid("d2;g0,0,0;g0,9,0;").stuck(), 1);
        due.is("no dish", Due.laid("d2;g0,9,0;g0,9,0;").stuck(), 1);
        due.is("a CHILD who changes all back", Due.laid("d2;g3,0,0;g0,1,0;").stuck(), 1);
        due.is("a CHILD at the end", Due.laid("d2;g0,0,0;g3,1,0;").stuck(), 0);
        PassTheSalt x = Due.laid("d2;g0,0,0;g1,9,0;g2,1,0;");
        due.is("at first", x.stuck(), 0);
        // 2 asks 0: the OWN one keeps what goes on, so nothing comes to 0.
        x.ask(2, 0);
        due.lies("then", x, "-10");
        due.is("2 may still ask 1", x.stuck(), 0);
    }

    private static void p17Rest() {
        due.is("nobody wants", Due.laid("g0,0,0;g0,1,0;").rest(), 0);
        due.is("all have", Due.laid("g0,0,3;g0,1,6;").rest(), 0);
        due.is("one asking", Due.laid("g0,0,2;g0,1,1;").rest(), 1);
        due.is("both want one", Due.laid("g0,0,1;g0,1,1;").rest(), NONE);
        due.is("it is nowhere", Due.laid("g0,0,4;g0,1,0;").rest(), NONE);
        due.is("of several any", Due.laid("g0,0,6;g0,1,5;g0,2,0;").rest(), 1);
        due.is("with nothing before him", Due.laid("g0,0,0;g0,9,1;").rest(), NONE);
        PassTheSalt x = new PassTheSalt();
        due.is("three in a round", x.rest(), 2);
        x.ask(0, 1);
        due.is("then", x.rest(), 1);
        x.ask(1, 2);
        due.is("at rest", x.rest(), 0);
    }

    private static void p18HoldsUp() {
        PassTheSalt x = Due.laid("d2;g0,0,2;g2,1,1;");
        due.is("who", x.holdsUp(0), 0);
        due.is("for how many", x.holdsUp(1), 2);
        x = Due.laid("d2;g2,0,2;g0,1,1;");
        due.is("who, 1", x.holdsUp(0), 1);
        due.is("for how many, 1", x.holdsUp(1), 2);
        x = Due.laid("d3;g2,0,6;g0,1,5;g2,2,3;");
        due.is("all go by 1", x.holdsUp(0), 1);
        due.is("all six", x.holdsUp(1), 6);
        x = Due.laid("d2;g2,0,2;g2,1,1;");
        due.is("none, so the lowest", x.holdsUp(0), 0);
        due.is("none comes to be none that is so already", x.holdsUp(1), 0);
        due.is("holdsUp(2)", x.holdsUp(2), BAD);
        due.is("holdsUp(-1)", x.holdsUp(-1), BAD);
        due.is("what nobody wants", Due.laid("d2;g0,0,0;g2,1,0;").holdsUp(1), 0);
    }

    private static void p19Liked() {
        PassTheSalt x = Due.laid("d3;g0,0,0;w121;g0,1,0;w211;g0,2,0;w991;");
        due.is("0 and 1 alone", x.liked(0), 1);
        due.is("the first", x.liked(1), 1);
        x = Due.laid("d3;g0,0,0;w123;g0,1,0;w113;g0,2,0;w221;");
        due.is("02 and 12", x.liked(0), 2);
        due.is("02", x.liked(1), 2);
        due.is("not of 0", Due.laid("d3;g0,0,0;g0,1,0;w012;g0,2,0;w021;").liked(1), 12);
        x.ask(0, 2);
        due.is("then none", x.liked(0), 0);
        due.is("then no first", x.liked(1), NONE);
        due.is("nothing for something", Due.laid("d3;g0,0,0;w000;g0,9,0;").liked(0), 0);
        due.is("cold does not count", Due.laid("d2;g0,0,0;w12;g0,1,0;w21;c9;").liked(0), 1);
        due.is("liked(2)", x.liked(2), BAD);
        due.is("liked(-1)", x.liked(-1), BAD);
    }

    private static void p20Most() {
        due.is("as it lies", new PassTheSalt().most(), 3);
        due.is("not the greedy way", Due.laid("d2;g0,0,0;w98;g0,1,0;w91;").most(), 17);
        due.is("before one who has nothing", Due.laid("d2;g0,0,0;w10;g0,9,0;w70;g0,1,0;w01;").most(), 8);
        due.is("what is nowhere does not count", Due.laid("d2;g0,0,0;w19;g0,9,0;w39;").most(), 3);
        due.is("no dish", Due.laid("g0,9,0;g0,9,0;").most(), 0);
        due.is("HOLDs do not count", Due.laid("d2;g2,0,0;w09;g2,1,0;w90;").most(), 18);
        PassTheSalt x = Due.laid("d2;g0,0,0;w59;g0,1,0;w95;c9;");
        x.ask(0, 1);
        due.is("not cold", x.most(), 18);
    }

    private static void p21Seats() {
        PassTheSalt x = new PassTheSalt();
        due.is("the first of several", x.seats(), 1);
        x.ask(0, 1);
        due.is("0 and 1 are not it then", x.seats(), 12);
        x.ask(1, 2);
        due.is("all at rest", x.seats(), NONE);
        due.is("none to less", Due.laid("d2;g2,0,2;g2,1,1;").seats(), 1);
        due.is("none in any way", Due.laid("d2;g0,0,1;g0,1,1;").seats(), NONE);
        due.is("the last two", Due.laid("d3;g0,0,1;g0,1,4;g0,2,2;").seats(), 12);
        due.is("dishes stay", Due.laid("d2;g0,0,2;g0,1,1;").seats(), 1);
    }

    private static void p22Went() {
        PassTheSalt x = Due.laid("d2;g0,0,0;g0,1,0;");
        long[] stay = {1, 0, 4, 0, 16, 0, 64, 0, 256};
        for (int n = 0; n <= 8; n++) {
            due.is("went(" + n + ")", x.went(n), stay[n]);
        }
        x.ask(0, 1);
        long[] other = {0, 2, 0, 8, 0, 32, 0, 128, 0};
        for (int n = 0; n <= 8; n++) {
            due.is("went(" + n + ") otherwise", x.went(n), other[n]);
        }
        due.is("went(9)", x.went(9), BAD);
        due.is("went(-1)", x.went(-1), BAD);
        x = Due.laid("d2;g2,0,0;g0,1,0;");
        due.is("a HOLD is not asked", x.went(4), 1);
        x = Due.laid("d2;g3,0,0;g0,1,0;");
        due.is("all back each time", x.went(8), 256);
        x = Due.laid("d2;g2,0,0;g2,1,0;");
        due.is("none can be", x.went(1), 0);
        due.is("no asking", x.went(0), 1);
        x = Due.laid("d6;g0,0,0;g0,1,0;g0,2,0;g0,3,0;g0,4,0;g0,5,0;");
        // 2^8 times the rows of 8 changes of two among 6 that change nothing: 2 (15^8 + 25 9^8 + 81 5^8 + 125 3^8) / 720.
        due.is("more than an int", x.went(8), 2_610_858_240L);
    }

    private static void p23Drawn() {
        PassTheSalt x = new PassTheSalt();
        // x is 1, DRAW 1: 1 asks 0.
        due.is("one", x.drawn(0, 1, -1), 1);
        due.is("dish 0", x.drawn(0, 1, 0), 1);
        due.is("dish 1", x.drawn(0, 1, 1), 0);
        due.is("dish 2", x.drawn(0, 1, 2), 2);
        // k is 1: x is 6152, x times x 37847104, DRAW 41487: 5185 modulo 3 is 1, 41487 modulo 3 is 0: 0 asks 1.
        due.is("two", x.drawn(0, 2, -1), 2);
        due.is("back again", x.drawn(0, 2, 0), 0);
        due.lies("nothing changes", x, "012");
        due.is("no minutes", x.count(2), 0);
        int[][] bad = {{-1, 1, 0}, {10000, 1, 0}, {0, 0, 0}, {0, 61, 0}, {0, 1, 3}, {0, 1, -2}, {0, -1, -1}};
        for (int[] b : bad) {
            due.is("drawn(" + b[0] + ", " + b[1] + ", " + b[2] + ")", x.drawn(b[0], b[1], b[2]), BAD);
        }
        due.is("the last z is told", x.drawn(9999, 60, 0) >= 0 ? 1 : 0, 1);
        x.ask(0, 1);
        due.is("from now on", x.drawn(0, 1, 0), 0);
        x = Due.laid("d3;g2,0,0;g2,1,0;");
        due.is("none can be", x.drawn(5, 60, -1), 0);
        due.is("a dish that is nowhere", x.drawn(5, 60, 2), NONE);
    }

    private static void p24Keep() {
        PassTheSalt x = new PassTheSalt();
        due.is("keep", x.keep(), 1);
        x.ask(0, 1);
        due.is("keep leaves what can be undone", x.keep(), 2);
        due.is("undoable", x.count(3), 1);
        due.is("keep a third", x.keep(), FULL);
        due.is("kept", x.count(4), 2);
        x.back();
        due.is("room again", x.keep(), 2);
    }

    private static void p25Back() {
        PassTheSalt x = new PassTheSalt();
        due.is("none kept", x.back(), NO);
        x.ask(0, 1);
        x.keep();
        x.ask(0, 2);
        x.keep();
        x.ask(1, 2);
        due.is("had", x.guest(2, 3), 7);
        due.is("back", x.back(), 1);
        due.lies("as kept last", x, "201");
        due.is("minutes as kept", x.count(2), 3);
        due.is("had as kept", x.guest(2, 3), 6);
        due.is("nothing is undone", x.undo(), NO);
        due.is("back again", x.back(), 0);
        due.lies("as kept first", x, "102");
        due.is("minutes as kept first", x.count(2), 1);
        due.is("had as kept first", x.guest(0, 3), 3);
        due.is("no more", x.back(), NO);
        due.lies("NO changes nothing", x, "102");
        x.ask(0, 1);
        due.is("NO leaves what can be undone", x.back(), NO);
        due.is("undoable", x.count(3), 1);
    }

    private static void p26Count() {
        PassTheSalt x = Due.laid("d5;g0,0,0;g0,1,0;g0,2,0;g0,3,0;r1;");
        x.ask(0, 2);
        x.ask(0, 3);
        x.ask(1, 1);
        x.keep();
        int[] want = {4, 5, 3, 2, 1, 34, 1};
        for (int what = 0; what < want.length; what++) {
            due.is("count(" + what + ")", x.count(what), want[what]);
        }
        due.is("count(7)", x.count(7), BAD);
        due.is("count(-1)", x.count(-1), BAD);
        due.is("count(MIN)", x.count(Integer.MIN_VALUE), BAD);
    }
}
