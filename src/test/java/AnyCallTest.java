import java.util.Random;

/** Any arguments in any state: no call throws, and the document's bounds hold for what it answers. */
public final class AnyCallTest {
    private static final int MOST_CALLS = 512;
    private static final int[] EDGES = {Integer.MIN_VALUE, Integer.MIN_VALUE + 1, -65536, -7, -5, -4, -3, -2, -1, 0, 1, 2, 3, 4, 5, 6,
        7, 8, 9, 10, 59, 60, 61, 99, 100, 720, 1023, 9999, 10000, 65521, Integer.MAX_VALUE - 1, Integer.MAX_VALUE};
    private static final Due due = new Due();

    public static void main(String[] args) {
        for (int run = 0; run < 600; run++) {
            play(new Random(4711L + run));
        }
        due.end();
    }

    /** Each round is a table told anew or not, one call, a look at all guests or not: below 60 calls. */
    private static void play(Random random) {
        PassTheSalt x = new PassTheSalt();
        int made = 0;
        while (made <= MOST_CALLS - 60) {
            if (random.nextInt(60) == 0) {
                String text = PlainTableTest.anyTable(random);
                x.wipe();
                Due.write(x, text);
                x.lay();
                made += 2 + (text.length() + 7) / 8;
            }
            int call = random.nextInt(26);
            long answer = answered(random, x, call);
            made++;
            due.is("call " + call + " answered below NONE: " + answer, answer < PassTheSalt.NONE ? 1 : 0, 0);
            if (random.nextInt(8) == 0) {
                made += lookAtGuests(x);
            }
        }
        due.is("calls of one object: " + made, made <= MOST_CALLS ? 1 : 0, 1);
    }

    /** How many calls it took. */
    private static int lookAtGuests(PassTheSalt x) {
        int guests = x.count(0);
        for (int g = 0; g < guests; g++) {
            int dish = x.guest(g, 1);
            int had = x.guest(g, 3);
            due.is("what is there was had", dish >= 0 && (had >> dish & 1) == 0 ? 1 : 0, 0);
        }
        return 1 + 2 * guests;
    }

    private static int some(Random random) {
        return random.nextInt(4) == 0 ? EDGES[random.nextInt(EDGES.length)] : random.nextInt(7);
    }

    private static long answered(Random random, PassTheSalt x, int call) {
        int a = some(random);
        int b = some(random);
        int c = some(random);
        switch (call) {
            case 0: return x.write(a, random.nextLong());
            case 1: return random.nextInt(20) == 0 ? x.wipe() : 0;
            case 2: return x.fault();
            case 3: return random.nextInt(20) == 0 ? x.lay() : 0;
            case 4: return x.guest(a, b);
            case 5: return x.worth(a, b, c);
            case 6: return x.hands(a, b);
            case 7: return x.ask(a, b);
            case 8: return x.undo();
            case 9: return x.evening();
            case 10: return x.need(a, b);
            case 11: return x.first(a, b);
            case 12: return x.price(a, b);
            case 13: return x.never(a);
            case 14: return x.stuck();
            case 15: return x.rest();
            case 16: return x.holdsUp(a);
            case 17: return x.liked(a);
            case 18: return x.most();
            case 19: return x.seats();
            case 20: return x.went(a);
            case 21: return x.drawn(a, b, c);
            case 22: return x.keep();
            case 23: return x.back();
            case 24: return x.count(a);
            default: return x.ask(random.nextInt(6), random.nextInt(6));
        }
    }
}
