import java.math.BigInteger;

/** The edges of evenings by draws, of tables kept and of counts (part 4; promises 23 to 26), and of 512 calls. */
public final class EveningEdgesTest {
    private static final int BAD = PassTheSalt.BAD, NO = PassTheSalt.NO;
    private static final int FULL = PassTheSalt.FULL, NONE = PassTheSalt.NONE;
    private static final int[] FAR_OFF = {-2, -3, -60, Integer.MIN_VALUE, Integer.MAX_VALUE};
    private static final String MIXED = "d6;g0,0,1;w135790;g1,3,2;w975310;g2,1,4;g3,2,8;g1,9,16;w246802;g3,5,0;";
    private static final Due due = new Due();

    public static void main(String[] args) {
        drawsByEach();
        drawsFromTheFirst();
        drawsOfTwoToSixGuests();
        drawnIfHeCanBe();
        drawnBadZ();
        drawnBadN();
        drawnBadD();
        drawnNowhere();
        drawnFromNowOn();
        drawnChangesNothing();
        keepTwo();
        keepChangesNothing();
        keptAreThree();
        backLast();
        backNo();
        backUndoesNothing();
        backLeavesTheTable();
        counts();
        countBad();
        calls512();
        due.end();
    }

    private static int draw(int z, int k) {
        BigInteger x = BigInteger.valueOf(7919).multiply(BigInteger.valueOf(z))
                .add(BigInteger.valueOf(6151).multiply(BigInteger.valueOf(k))).add(BigInteger.ONE);
        return x.multiply(x).mod(BigInteger.valueOf(65521)).intValueExact();
    }

    /** The same evening by askings, on a table of its own: how many are. */
    private static int askAll(PassTheSalt x, int z, int n) {
        int many = 0;
        int guests = x.count(0);
        for (int k = 0; k < n; k++) {
            int draw = draw(z, k);
            many += x.ask(draw % guests, draw / 8 % guests) == NO ? 0 : 1;
        }
        return many;
    }

    private static int whoHas(PassTheSalt x, int dish) {
        for (int i = 0; i < x.count(0); i++) {
            if (x.guest(i, 1) == dish) {
                return i;
            }
        }
        return NONE;
    }

    private static void drawsByEach() {
        due.of("AN EVENING by z (0 to 9999): DRAW being (x times x) modulo 65521");
        PassTheSalt x = null;
        for (int z = 0; z <= 9999; z++) {
            x = z % 200 == 0 ? new PassTheSalt() : x;
            int asked = draw(z, 0) / 8 % 3;
            int asker = draw(z, 0) % 3;
            due.is("drawn(" + z + ", 1, -1)", x.drawn(z, 1, -1), asked == asker ? 0 : 1);
            due.is("drawn(" + z + ", 1, 0)", x.drawn(z, 1, 0), asked == 0 ? asker : asker == 0 ? asked : 0);
        }
    }

    private static void drawsFromTheFirst() {
        due.of("of n askings (1 to 60) .. as the k-th (0 first)");
        int[] some = {0, 1, 2, 5000, 9998, 9999};
        for (int z : some) {
            for (int n = 1; n <= 60; n++) {
                PassTheSalt y = Due.laid(MIXED);
                int many = askAll(y, z, n);
                PassTheSalt x = Due.laid(MIXED);
                due.is("drawn(" + z + ", " + n + ", -1)", x.drawn(z, n, -1), many);
                for (int d = 0; d < 6; d++) {
                    due.is("drawn(" + z + ", " + n + ", " + d + ")", x.drawn(z, n, d), whoHas(y, d));
                }
            }
        }
        due.of("k-th (0 first): 1 asks 0, then 0 asks 1");
        PassTheSalt x = new PassTheSalt();
        due.is("drawn(0, 1, 0)", x.drawn(0, 1, 0), 1);
        due.is("drawn(0, 2, 0)", x.drawn(0, 2, 0), 0);
    }

    private static void drawsOfTwoToSixGuests() {
        due.of("GUEST (DRAW by 8, cut) modulo how many there are is ASKED by GUEST DRAW modulo that");
        for (int guests = 2; guests <= 6; guests++) {
            for (int ring = 0; ring < 2; ring++) {
                StringBuilder text = new StringBuilder("d6;");
                for (int g = 0; g < guests; g++) {
                    text.append("g").append(g % 3 == 2 ? 1 : 0).append(",").append(g).append(",0;w654321;");
                }
                text.append("r").append(ring).append(";");
                for (int z = 0; z < 40; z++) {
                    PassTheSalt y = Due.laid(text.toString());
                    int many = askAll(y, 250 * z + guests, 30);
                    PassTheSalt x = Due.laid(text.toString());
                    due.is("drawn of " + guests, x.drawn(250 * z + guests, 30, -1), many);
                    for (int d = 0; d < 6; d++) {
                        due.is("who has " + d + " of " + guests, x.drawn(250 * z + guests, 30, d), whoHas(y, d));
                    }
                }
            }
        }
    }

    private static void drawnIfHeCanBe() {
        due.of("is ASKED .., if he can be: how many are");
        due.is("HOLDs", Due.laid("d2;g2,0,0;g2,1,0;").drawn(7, 60, -1), 0);
        due.is("no dish", Due.laid("d2;g0,9,0;g0,9,0;").drawn(7, 60, -1), 0);
        due.is("one dish", Due.laid("d2;g0,0,0;g0,9,0;").drawn(7, 60, -1), 0);
        int unlike = 0;
        for (int k = 0; k < 60; k++) {
            unlike += draw(7, k) % 2 == draw(7, k) / 8 % 2 ? 0 : 1;
        }
        due.is("unlike ones", Due.laid("d2;g0,0,0;g0,1,0;").drawn(7, 60, -1), unlike);
        due.is("who comes to lie as before is asked, too", Due.laid("d2;g3,0,0;g0,1,0;").drawn(7, 60, -1), unlike);
    }

    private static void drawnBadZ() {
        due.of("drawn: z (0 to 9999). BAD");
        PassTheSalt x = new PassTheSalt();
        int[] bad = {-1, 10000, 10001, 65521};
        for (int[] some : new int[][] {bad, FAR_OFF}) {
            for (int z : some) {
                due.is("drawn(" + z + ", 1, -1)", x.drawn(z, 1, -1), BAD);
                due.is("drawn(" + z + ", 1, 0)", x.drawn(z, 1, 0), BAD);
            }
        }
        due.is("z of 0", x.drawn(0, 1, -1), 1);
        due.is("z of 9999 is told", x.drawn(9999, 1, -1) == BAD ? 1 : 0, 0);
    }

    private static void drawnBadN() {
        due.of("drawn: n askings (1 to 60). BAD");
        PassTheSalt x = new PassTheSalt();
        int[] bad = {-1, 0, 61, 62, 100};
        for (int[] some : new int[][] {bad, FAR_OFF}) {
            for (int n : some) {
                due.is("drawn(0, " + n + ", -1)", x.drawn(0, n, -1), BAD);
                due.is("drawn(0, " + n + ", 0)", x.drawn(0, n, 0), BAD);
            }
        }
        due.is("n of 1", x.drawn(0, 1, -1), 1);
        due.is("n of 60 is told", x.drawn(0, 60, -1) == BAD ? 1 : 0, 0);
    }

    private static void drawnBadD() {
        due.of("drawn: d = -1, before whom a DISH is. BAD");
        PassTheSalt x = Due.laid("d4;g0,0,0;g0,1,0;");
        int[] bad = {4, 5, 6, 7, 9};
        for (int[] some : new int[][] {bad, FAR_OFF}) {
            for (int d : some) {
                due.is("drawn(0, 1, " + d + ")", x.drawn(0, 1, d), BAD);
            }
        }
        due.is("the last dish", x.drawn(0, 1, 3), NONE);
        due.is("the first dish", x.drawn(0, 1, 0), 1);
        due.is("all three are none", x.drawn(-1, 0, 4), BAD);
    }

    private static void drawnNowhere() {
        due.of("before whom a DISH is (NONE)");
        PassTheSalt x = Due.laid("d6;g0,0,0;g0,5,0;");
        for (int d = 0; d < 6; d++) {
            due.is("drawn(0, 1, " + d + ")", x.drawn(0, 1, d), d == 0 ? 1 : d == 5 ? 0 : NONE);
        }
    }

    private static void drawnFromNowOn() {
        due.of("AN EVENING .. from now on");
        PassTheSalt x = new PassTheSalt();
        x.ask(0, 2);
        due.is("1 asks 0, before whom 2 is", x.drawn(0, 1, 2), 1);
        x.undo();
        due.is("undone", x.drawn(0, 1, 2), 2);
    }

    private static void drawnChangesNothing() {
        due.of("AN EVENING: nothing is asked in truth");
        PassTheSalt x = Due.laid(MIXED);
        x.ask(0, 1);
        x.drawn(5, 60, -1);
        x.drawn(6, 60, 0);
        PassTheSalt y = Due.laid(MIXED);
        y.ask(0, 1);
        due.same("all that can be seen", Whole.toTheGround(x), Whole.toTheGround(y));
    }

    private static void keepTwo() {
        due.of("KEPT are .. 2 at most; keep: how many. FULL");
        PassTheSalt x = new PassTheSalt();
        due.is("one", x.keep(), 1);
        due.is("two", x.keep(), 2);
        due.is("three", x.keep(), FULL);
        due.is("again", x.keep(), FULL);
        due.is("count(4)", x.count(4), 2);
        x.back();
        due.is("room for one", x.keep(), 2);
        due.is("no more", x.keep(), FULL);
        x.back();
        x.back();
        due.is("room for two", x.keep(), 1);
    }

    private static void keepChangesNothing() {
        due.of("keep: FULL. nothing changes then");
        PassTheSalt x = new PassTheSalt();
        x.keep();
        x.ask(0, 1);
        x.keep();
        x.ask(1, 2);
        due.is("keep", x.keep(), FULL);
        due.lies("now", x, "120");
        due.is("undoable", x.count(3), 2);
        x.back();
        due.lies("the second", x, "102");
        x.back();
        due.lies("the first", x, "012");
        due.of("keep: what can be UNDONE stays");
        x.ask(0, 1);
        x.keep();
        due.is("undo", x.undo(), 0);
        due.lies("undone", x, "012");
        due.is("kept still", x.count(4), 1);
    }

    private static void keptAreThree() {
        due.of("KEPT are how DISHES lie, what was HAD, MINUTES");
        PassTheSalt x = new PassTheSalt();
        x.ask(0, 2);
        x.keep();
        x.ask(0, 1);
        x.ask(1, 2);
        due.is("back", x.back(), 0);
        due.lies("how dishes lie", x, "210");
        due.is("had by 0", x.guest(0, 3), 5);
        due.is("had by 1", x.guest(1, 3), 2);
        due.is("had by 2", x.guest(2, 3), 5);
        due.is("minutes", x.count(2), 2);
    }

    private static void backLast() {
        due.of("As KEPT last: how many are left");
        PassTheSalt x = new PassTheSalt();
        x.keep();
        x.ask(0, 1);
        x.keep();
        x.ask(0, 2);
        due.is("the last", x.back(), 1);
        due.lies("then", x, "102");
        due.is("the first", x.back(), 0);
        due.lies("then", x, "012");
        due.is("minutes", x.count(2), 0);
    }

    private static void backNo() {
        due.of("back: NO. nothing changes then");
        PassTheSalt x = new PassTheSalt();
        due.is("of a new one", x.back(), NO);
        x.ask(0, 1);
        due.is("none is kept", x.back(), NO);
        due.lies("now", x, "102");
        due.is("what can be undone stays", x.count(3), 1);
        x.keep();
        x.back();
        due.is("spent", x.back(), NO);
    }

    private static void backUndoesNothing() {
        due.of("back: .. nothing is UNDONE then");
        PassTheSalt x = new PassTheSalt();
        x.ask(0, 1);
        x.keep();
        x.ask(1, 2);
        x.back();
        due.is("count(3)", x.count(3), 0);
        due.is("undo", x.undo(), NO);
        due.lies("now", x, "102");
        x.ask(0, 1);
        due.is("behind it one can be", x.undo(), 0);
        due.lies("undone", x, "102");
    }

    private static void backLeavesTheTable() {
        due.of("KEPT are how DISHES lie, what was HAD, MINUTES: nothing else");
        PassTheSalt x = Due.laid("g0,0,0;g0,1,0;r1;");
        x.keep();
        Due.write(x, "s1;");
        x.back();
        due.is("bytes", x.count(5), 20);
        due.is("ring", x.count(6), 1);
        due.is("went(0)", x.went(0), 1);
    }

    private static void counts() {
        due.of("How many: 0 GUESTS, 1 DISHES, 2 MINUTES, 3 that can be UNDONE, 4 KEPT, 5 bytes of THE TEXT, 6 a RING (1, 0)");
        PassTheSalt x = Due.laid("d5;g0,0,0;g0,1,0;g0,2,0;g0,3,0;r1;");
        x.ask(0, 2);
        x.ask(0, 1);
        x.ask(2, 0);
        x.keep();
        int[] want = {4, 5, 5, 3, 1, 34, 1};
        for (int what = 0; what < want.length; what++) {
            due.is("count(" + what + ")", x.count(what), want[what]);
        }
        due.is("at the least", Due.laid("d1;g0,9,0;g0,9,0;").count(1), 1);
        due.is("a row", Due.laid("d1;g0,9,0;g0,9,0;").count(6), 0);
    }

    private static void countBad() {
        due.of("count: BAD");
        PassTheSalt x = new PassTheSalt();
        int[] bad = {-1, 7, 8, 100};
        for (int[] some : new int[][] {bad, FAR_OFF}) {
            for (int what : some) {
                due.is("count(" + what + ")", x.count(what), BAD);
            }
        }
    }

    private static void calls512() {
        due.of("An object is used for at most 512 calls");
        PassTheSalt x = new PassTheSalt();
        Due.write(x, "d6;g0,0,0;g0,9,0;g0,9,0;g0,9,0;g0,9,0;g0,1,0;c9;");
        due.is("lay", x.lay(), 6);
        // Six writings and one laying so far; 503 askings from end to end; then the last two calls.
        for (int k = 0; k < 503; k++) {
            due.is("asking " + k, x.ask(5, 0), k % 2);
        }
        due.is("the 511th", x.evening(), 0);
        due.is("the 512th", x.count(2), 2515);
    }
}
