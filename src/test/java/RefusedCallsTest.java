import java.util.ArrayList;
import java.util.List;
import java.util.function.Supplier;
import java.util.function.ToLongFunction;

/**
 * "Nothing changes then": a table on which a call was refused, or which was only asked about, is in all
 * that follows as one on which that call never was.
 */
public final class RefusedCallsTest {
    private static final int BAD = PassTheSalt.BAD, NO = PassTheSalt.NO;
    private static final int FULL = PassTheSalt.FULL, NONE = PassTheSalt.NONE;
    private static final int[] NO_GUEST = {-1, 4, 6, Integer.MIN_VALUE, Integer.MAX_VALUE};
    private static final int[] NO_DISH = {-1, 5, 6, 9, Integer.MIN_VALUE, Integer.MAX_VALUE};
    private static final int ANY = Integer.MIN_VALUE;
    private static final String FOUR = "d5;g0,0,2;w98765;g1,1,4;w12345;g2,2,8;g3,9,1;w55555;r1;s5;c2;";
    private static final Due due = new Due();

    private record Call(String name, ToLongFunction<PassTheSalt> call, long want) {
    }

    public static void main(String[] args) {
        due.of("the tables of this test");
        isAsFull("bare", bare(), 0, 0);
        isAsFull("half", half(), 3, 1);
        isAsFull("full", full(), 8, 2);
        due.is("full: bytes", full().count(5), 300);
        due.of("BAD: nothing changes then");
        List<Call> bad = badCalls();
        compare("bare", RefusedCallsTest::bare, bad);
        compare("half", RefusedCallsTest::half, bad);
        compare("full", RefusedCallsTest::full, bad);
        due.of("NO: nothing changes then");
        compare("bare", RefusedCallsTest::bare, noCallsWhereBare());
        compare("half", RefusedCallsTest::half, noAskings());
        compare("full", RefusedCallsTest::full, noAskings());
        due.of("FULL: nothing changes then");
        compare("full", RefusedCallsTest::full, fullCalls());
        due.of("what is only asked about does not change");
        compare("bare", RefusedCallsTest::bare, questions());
        compare("half", RefusedCallsTest::half, questions());
        compare("full", RefusedCallsTest::full, questions());
        due.end();
    }

    /** Nothing is kept, nothing can be undone, and THE TEXT has a fault. */
    private static PassTheSalt bare() {
        PassTheSalt x = Due.laid(FOUR);
        Due.write(x, "x");
        return x;
    }

    /** One is kept, some can be undone, and THE TEXT is one that can be laid. */
    private static PassTheSalt half() {
        PassTheSalt x = Due.laid(FOUR);
        x.ask(0, 1);
        x.keep();
        x.ask(2, 0);
        x.ask(2, 1);
        x.wipe();
        Due.write(x, "g0,2,1;g0,0,2;w123;r1;");
        return x;
    }

    /** Two are kept, eight can be undone, and THE TEXT has 300 bytes. */
    private static PassTheSalt full() {
        PassTheSalt x = Due.laid(FOUR);
        for (int k = 0; k < 9; k++) {
            x.ask(2, k % 2);
            if (k == 2 || k == 5) {
                x.keep();
            }
        }
        x.wipe();
        Due.write(x, "g0,0,0;g0,1,0;g0,2,0;" + "s1;".repeat(93));
        return x;
    }

    private static void isAsFull(String where, PassTheSalt x, int undoable, int kept) {
        due.is(where + ": undoable", x.count(3), undoable);
        due.is(where + ": kept", x.count(4), kept);
    }

    private static void compare(String where, Supplier<PassTheSalt> made, List<Call> calls) {
        String untouched = Whole.toTheGround(made.get());
        for (Call call : calls) {
            PassTheSalt x = made.get();
            long answer = call.call().applyAsLong(x);
            if (call.want() != ANY) {
                due.is(where + ": " + call.name(), answer, call.want());
            }
            due.same(where + ": behind " + call.name() + " all that follows", Whole.toTheGround(x), untouched);
        }
    }

    private static List<Call> badCalls() {
        List<Call> all = new ArrayList<>();
        for (int n : new int[] {0, -1, 9, 10, Integer.MIN_VALUE, Integer.MAX_VALUE}) {
            all.add(new Call("write(" + n + ")", x -> x.write(n, 0x733b), BAD));
        }
        for (int i : NO_GUEST) {
            all.add(new Call("guest(" + i + ", 1)", x -> x.guest(i, 1), BAD));
            all.add(new Call("worth(" + i + ", 0, 0)", x -> x.worth(i, 0, 0), BAD));
            all.add(new Call("hands(" + i + ", 0)", x -> x.hands(i, 0), BAD));
            all.add(new Call("hands(0, " + i + ")", x -> x.hands(0, i), BAD));
            all.add(new Call("ask(" + i + ", 0)", x -> x.ask(i, 0), BAD));
            all.add(new Call("ask(0, " + i + ")", x -> x.ask(0, i), BAD));
            all.add(new Call("ask(" + i + ", " + i + ")", x -> x.ask(i, i), BAD));
            all.add(new Call("need(" + i + ", 0)", x -> x.need(i, 0), BAD));
            all.add(new Call("first(" + i + ", 0)", x -> x.first(i, 0), BAD));
            all.add(new Call("price(" + i + ", 0)", x -> x.price(i, 0), BAD));
            all.add(new Call("never(" + i + ")", x -> x.never(i), BAD));
        }
        for (int d : NO_DISH) {
            all.add(new Call("worth(0, " + d + ", 0)", x -> x.worth(0, d, 0), BAD));
            all.add(new Call("need(0, " + d + ")", x -> x.need(0, d), BAD));
            all.add(new Call("first(0, " + d + ")", x -> x.first(0, d), BAD));
            all.add(new Call("price(0, " + d + ")", x -> x.price(0, d), BAD));
            all.add(new Call("drawn(0, 1, " + d + ")", x -> x.drawn(0, 1, d == -1 ? -2 : d), BAD));
        }
        for (int far : new int[] {-1, 10000, Integer.MIN_VALUE, Integer.MAX_VALUE}) {
            all.add(new Call("guest(0, " + far + ")", x -> x.guest(0, far), BAD));
            all.add(new Call("worth(0, 0, " + far + ")", x -> x.worth(0, 0, far), BAD));
            all.add(new Call("holdsUp(" + far + ")", x -> x.holdsUp(far), BAD));
            all.add(new Call("liked(" + far + ")", x -> x.liked(far), BAD));
            all.add(new Call("went(" + far + ")", x -> x.went(far), BAD));
            all.add(new Call("drawn(" + far + ", 1, 0)", x -> x.drawn(far, 1, 0), BAD));
            all.add(new Call("drawn(0, " + far + ", 0)", x -> x.drawn(0, far, 0), BAD));
            all.add(new Call("count(" + far + ")", x -> x.count(far), BAD));
        }
        return all;
    }

    private static List<Call> noCallsWhereBare() {
        List<Call> all = noAskings();
        all.add(new Call("undo()", PassTheSalt::undo, NO));
        all.add(new Call("back()", PassTheSalt::back, NO));
        all.add(new Call("lay()", PassTheSalt::lay, NO));
        all.add(new Call("ask(0, 2)", x -> x.ask(0, 2), NO));
        all.add(new Call("ask(3, 0)", x -> x.ask(3, 0), NO));
        all.add(new Call("ask(0, 3)", x -> x.ask(0, 3), NO));
        return all;
    }

    private static List<Call> noAskings() {
        List<Call> all = new ArrayList<>();
        for (int i = 0; i < 4; i++) {
            int same = i;
            all.add(new Call("ask(" + i + ", " + i + ")", x -> x.ask(same, same), NO));
        }
        all.add(new Call("ask(1, 2), a HOLD", x -> x.ask(1, 2), NO));
        return all;
    }

    private static List<Call> fullCalls() {
        List<Call> all = new ArrayList<>();
        for (int k = 1; k <= 8; k++) {
            int n = k;
            all.add(new Call("write(" + n + ")", x -> x.write(n, 0x733b), FULL));
        }
        all.add(new Call("keep()", PassTheSalt::keep, FULL));
        return all;
    }

    private static List<Call> questions() {
        List<Call> all = new ArrayList<>();
        all.add(new Call("fault()", PassTheSalt::fault, ANY));
        all.add(new Call("evening()", PassTheSalt::evening, ANY));
        all.add(new Call("stuck()", PassTheSalt::stuck, ANY));
        all.add(new Call("rest()", PassTheSalt::rest, ANY));
        all.add(new Call("most()", PassTheSalt::most, ANY));
        all.add(new Call("seats()", PassTheSalt::seats, ANY));
        for (int k = 0; k < 4; k++) {
            int i = k;
            all.add(new Call("guest", x -> x.guest(i, i), ANY));
            all.add(new Call("worth", x -> x.worth(i, i, i), ANY));
            all.add(new Call("hands", x -> x.hands(i, 0), ANY));
            all.add(new Call("need", x -> x.need(i, 4 - i), ANY));
            all.add(new Call("first", x -> x.first(i, 4 - i), ANY));
            all.add(new Call("price", x -> x.price(i, 4 - i), ANY));
            all.add(new Call("never", x -> x.never(i), ANY));
            all.add(new Call("holdsUp", x -> x.holdsUp(i % 2), ANY));
            all.add(new Call("liked", x -> x.liked(i % 2), ANY));
            all.add(new Call("went", x -> x.went(2 * i), ANY));
            all.add(new Call("drawn", x -> x.drawn(i, 60, i - 1), ANY));
            all.add(new Call("count", x -> x.count(i), ANY));
        }
        all.add(new Call("need of what is nowhere", x -> x.need(0, 4), NONE));
        all.add(new Call("first of what is nowhere", x -> x.first(0, 4), NONE));
        all.add(new Call("price of what is nowhere", x -> x.price(0, 4), NONE));
        return all;
    }
}
