import java.util.Random;

/** Random tables and calls: the program answers as the plain table does. */
public final class PlainTableTest {
    private static final Due due = new Due();

    public static void main(String[] args) {
        int tables = args.length > 0 ? Integer.parseInt(args[0]) : 400;
        long seed = args.length > 1 ? Long.parseLong(args[1]) : 20261118L;
        for (int run = 0; run < tables; run++) {
            play(new Random(seed + run), "run " + run + " ");
        }
        for (int run = 0; run < 50 * tables; run++) {
            readAny(new Random(seed - 1 - run));
        }
        due.end();
    }

    /** An object is good for 512 calls: two tables of so many calls and looks stay below that. */
    private static void play(Random random, String run) {
        PassTheSalt x = new PassTheSalt();
        PlainTable y = new PlainTable();
        int laid = 1 + random.nextInt(2);
        for (int t = 0; t < laid; t++) {
            String text = anyTable(random);
            String at = run + text + " ";
            due.is(run + "wipe", x.wipe(), y.wipe());
            writeBoth(x, y, text);
            due.is(run + "fault of " + text, x.fault(), y.fault());
            due.is(run + "lay", x.lay(), y.lay());
            for (int k = 0; k < 22; k++) {
                call(random, x, y, at);
                lookAtSome(random, x, y, at);
            }
            lookAtGuests(x, y, at);
            lookAhead(x, y, at);
        }
        String last = anyTable(random);
        lookAtTable(last, run + last + " ");
    }

    static void writeBoth(PassTheSalt x, PlainTable y, String text) {
        for (int k = 0; k < text.length(); k += 8) {
            String part = text.substring(k, Math.min(k + 8, text.length()));
            long v = 0;
            for (int p = 0; p < part.length(); p++) {
                v = v << 8 | part.charAt(p);
            }
            due.is("write", x.write(part.length(), v), y.write(part.length(), v));
        }
    }

    static String anyTable(Random random) {
        StringBuilder text = new StringBuilder();
        int dishes = 1 + random.nextInt(6);
        text.append("d").append(dishes).append(";");
        int guests = 2 + random.nextInt(5);
        int kinds = random.nextInt(6);
        int[] order = {0, 1, 2, 3, 4, 5};
        for (int k = 5; k > 0; k--) {
            int other = random.nextInt(k + 1);
            int held = order[k];
            order[k] = order[other];
            order[other] = held;
        }
        for (int g = 0; g < guests; g++) {
            boolean none = order[g] >= dishes || random.nextInt(8) == 0;
            int kind = kinds < 4 && random.nextInt(3) > 0 ? kinds : random.nextInt(4);
            int wants = random.nextInt(3) == 0 ? 0 : random.nextInt(3) == 0 ? random.nextInt(1 << dishes) : 1 << random.nextInt(dishes);
            text.append("g").append(kind).append(",").append(none ? 9 : order[g]).append(",").append(wants).append(";");
            if (random.nextInt(3) > 0) {
                text.append("w");
                for (int d = 0; d < dishes; d++) {
                    text.append(random.nextInt(10));
                }
                text.append(";");
            }
        }
        text.append("r").append(random.nextInt(2)).append(";");
        text.append("s").append(random.nextBoolean() ? random.nextInt(10) : random.nextInt(100)).append(";");
        text.append("c").append(random.nextInt(4)).append(";");
        return text.toString();
    }

    private static void call(Random random, PassTheSalt x, PlainTable y, String at) {
        int i = random.nextInt(7) - (random.nextInt(20) == 0 ? 1 : 0);
        int j = random.nextInt(7) - (random.nextInt(20) == 0 ? 1 : 0);
        int z = random.nextInt(10002) - 1;
        switch (random.nextInt(15)) {
            case 0:
                due.is(at + "undo", x.undo(), y.undo());
                break;
            case 1:
                due.is(at + "keep", x.keep(), y.keep());
                break;
            case 2:
                due.is(at + "back", x.back(), y.back());
                break;
            case 3:
                due.is(at + "need " + i + " " + j, x.need(i, j), y.need(i, j));
                break;
            case 4:
                due.is(at + "price " + i + " " + j, x.price(i, j), y.price(i, j));
                break;
            case 5:
                due.is(at + "went " + i, x.went(i % 4), y.went(i % 4));
                break;
            case 6:
                due.is(at + "drawn", x.drawn(z, 10 * i, j - 1), y.drawn(z, 10 * i, j - 1));
                break;
            case 7:
                due.is(at + "stuck", x.stuck(), y.stuck());
                break;
            default:
                due.is(at + "ask " + i + " " + j, x.ask(i, j), y.ask(i, j));
                break;
        }
    }

    private static void lookAtSome(Random random, PassTheSalt x, PlainTable y, String at) {
        int g = random.nextInt(y.count(0));
        due.is(at + "dish of " + g, x.guest(g, 1), y.guest(g, 1));
        due.is(at + "had by " + g, x.guest(g, 3), y.guest(g, 3));
        due.is(at + "evening", x.evening(), y.evening());
        for (int what = 2; what < 5; what++) {
            due.is(at + "count " + what, x.count(what), y.count(what));
        }
    }

    private static void lookAtGuests(PassTheSalt x, PlainTable y, String at) {
        for (int g = 0; g < y.count(0); g++) {
            due.is(at + "dish of " + g, x.guest(g, 1), y.guest(g, 1));
            due.is(at + "had by " + g, x.guest(g, 3), y.guest(g, 3));
        }
    }

    private static void lookAhead(PassTheSalt x, PlainTable y, String at) {
        due.is(at + "stuck", x.stuck(), y.stuck());
        due.is(at + "rest", x.rest(), y.rest());
        due.is(at + "seats", x.seats(), y.seats());
        due.is(at + "most", x.most(), y.most());
        due.is(at + "went 8", x.went(8), y.went(8));
        for (int what = 0; what < 2; what++) {
            due.is(at + "holdsUp " + what, x.holdsUp(what), y.holdsUp(what));
            due.is(at + "liked " + what, x.liked(what), y.liked(what));
        }
        for (int i = 0; i < 7; i++) {
            due.is(at + "never " + i, x.never(i), y.never(i));
            for (int j = -1; j < 7; j++) {
                if ((i + j) % 3 == 0) {
                    due.is(at + "need " + i + " " + j, x.need(i, j), y.need(i, j));
                    due.is(at + "price " + i + " " + j, x.price(i, j), y.price(i, j));
                }
                if ((i + 2 * j) % 11 == 3) {
                    due.is(at + "first " + i + " " + j, x.first(i, j), y.first(i, j));
                }
            }
        }
    }

    /** What lies still while the table is the same, wrong numbers, too. */
    private static void lookAtTable(String text, String at) {
        PassTheSalt x = new PassTheSalt();
        PlainTable y = new PlainTable();
        writeBoth(x, y, text);
        due.is(at + "lay", x.lay(), y.lay());
        for (int what = -1; what < 8; what++) {
            due.is(at + "count " + what, x.count(what), y.count(what));
            due.is(at + "holdsUp " + what, x.holdsUp(what), y.holdsUp(what));
            due.is(at + "liked " + what, x.liked(what), y.liked(what));
        }
        for (int i = -1; i < 7; i++) {
            due.is(at + "never " + i, x.never(i), y.never(i));
            for (int j = -1; j < 7; j++) {
                due.is(at + "guest " + i + " " + j, x.guest(i, j), y.guest(i, j));
                due.is(at + "hands " + i + " " + j, x.hands(i, j), y.hands(i, j));
                due.is(at + "worth " + i + " " + j, x.worth(i, j, 2), y.worth(i, j, 2));
            }
        }
    }

    /** Texts near to those without fault, and what is laid by them. */
    private static void readAny(Random random) {
        PassTheSalt x = new PassTheSalt();
        PlainTable y = new PlainTable();
        StringBuilder text = new StringBuilder(anyTable(random));
        String signs = "dgwrsc0123456789,;;  \u0000\u00ffx";
        for (int k = random.nextInt(4); k > 0; k--) {
            int place = random.nextInt(text.length());
            char sign = signs.charAt(random.nextInt(signs.length()));
            switch (random.nextInt(3)) {
                case 0:
                    text.setCharAt(place, sign);
                    break;
                case 1:
                    text.insert(place, sign);
                    break;
                default:
                    text.deleteCharAt(place);
                    break;
            }
        }
        writeBoth(x, y, text.toString());
        due.is("fault of " + text, x.fault(), y.fault());
        due.is("lay of " + text, x.lay(), y.lay());
        due.is("most of " + text, x.most(), y.most());
    }
}
