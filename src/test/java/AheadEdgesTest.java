/** The edges of what can be had and of what is liked (part 3; promises 12 to 22). */
public final class AheadEdgesTest {
    private static final int BAD = PassTheSalt.BAD, NONE = PassTheSalt.NONE;
    private static final int[] FAR_OFF = {-1, -2, -9, Integer.MIN_VALUE, Integer.MAX_VALUE};
    private static final String SIX = "d6;g0,0,0;g0,1,0;g0,2,0;g0,3,0;g0,4,0;g0,5,0;";
    private static final Due due = new Due();

    public static void main(String[] args) {
        needOfWhatIsThere();
        needByWhomever();
        needNone();
        needFromNowOn();
        firstLeast();
        firstNone();
        firstWhoAsksAhead();
        firstOfAsManyAlone();
        guestsAndDishesBad();
        priceOfWhatIsThere();
        priceLeast();
        priceOfNoCost();
        priceWithNothing();
        priceNone();
        priceOfHands();
        never();
        neverFromNowOn();
        neverBad();
        stuck();
        stuckThoughAsked();
        stuckFromNowOn();
        stuckOfSix();
        restAtOnce();
        restWithoutWants();
        restOfOneOfThese();
        restNone();
        restFewest();
        holdsUpNone();
        holdsUpLowest();
        holdsUpMost();
        holdsUpComesToBeNone();
        holdsUpNoMoreOwn();
        holdsUpFromNowOn();
        holdsUpBad();
        likedMore();
        likedNothing();
        likedNotCold();
        likedFirst();
        likedBad();
        mostOfAll();
        mostOfWhatIsThere();
        mostNotCold();
        mostOfNone();
        seatsFirst();
        seatsDishesStay();
        seatsNotLess();
        seatsNone();
        seatsFromNone();
        seatsFromNowOn();
        seatsTakeAllAlong();
        wentBad();
        wentNone();
        wentFromLaid();
        wentBeyondInt();
        laidAnew();
        due.end();
    }

    private static void needOfWhatIsThere() {
        due.of("NEED: 0, where it is before him");
        PassTheSalt x = Due.laid("g2,0,0;g2,1,0;");
        due.is("need(0, 0)", x.need(0, 0), 0);
        due.is("need(1, 1)", x.need(1, 1), 0);
    }

    private static void needByWhomever() {
        due.of("NEED: the fewest askings, by whomever");
        // None can be asked but 1: he takes no part himself.
        PassTheSalt x = Due.laid("d3;g2,0,0;g0,1,0;g2,2,0;");
        due.is("2 asks 1", x.need(1, 2), 1);
        due.is("2 asks 1, 0 asks 1", x.need(0, 2), 2);
        // By one asking of the two outer ones the OWN one has it, who can not ask himself.
        x = Due.laid("d2;g0,0,0;g1,9,0;g0,1,0;");
        due.is("0 asks 2, 1 keeps it", x.need(1, 0), 1);
        due.is("2 asks 0, 1 keeps it", x.need(1, 1), 1);
    }

    private static void needNone() {
        due.of("NEED .. none");
        due.is("it is nowhere", Due.laid("d3;g0,0,0;g0,1,0;").need(0, 2), NONE);
        due.is("nothing is before him", Due.laid("d3;g0,0,0;g0,9,0;g0,1,0;").need(1, 0), NONE);
        due.is("HOLDs", Due.laid("d2;g2,0,0;g2,1,0;").need(0, 1), NONE);
        due.is("a CHILD gives it back", Due.laid("d2;g3,0,0;g0,1,0;").need(0, 1), NONE);
        due.is("one dish alone", Due.laid("d1;g0,0,0;g0,9,0;").need(1, 0), NONE);
        due.is("no dish at all", Due.laid("d1;g0,9,0;g0,9,0;").need(1, 0), NONE);
    }

    private static void needFromNowOn() {
        due.of("NEED, as dishes lie now");
        PassTheSalt x = Due.laid("d3;g2,0,0;g0,1,0;g2,2,0;");
        due.is("at first", x.need(0, 2), 2);
        x.keep();
        x.ask(2, 1);
        due.is("asked", x.need(0, 2), 1);
        x.ask(0, 1);
        due.is("there", x.need(0, 2), 0);
        x.undo();
        due.is("undone", x.need(0, 2), 1);
        x.back();
        due.is("as kept", x.need(0, 2), 2);
    }

    private static void firstLeast() {
        due.of("FIRST: .. of all rows of so few the least 10 i and j");
        PassTheSalt x = Due.laid(SIX);
        for (int i = 0; i < 6; i++) {
            for (int j = 0; j < 6; j++) {
                due.is("first(" + i + ", " + j + ")", x.first(i, j), i == j ? NONE : 10 * Math.min(i, j) + Math.max(i, j));
            }
        }
        x = Due.laid("d3;g0,0,0;g0,1,0;g2,2,0;");
        due.is("02 can not be", x.first(0, 2), 20);
    }

    private static void firstNone() {
        due.of("FIRST. NONE (NEED is 0, too)");
        PassTheSalt x = Due.laid("d3;g2,0,0;g2,1,0;");
        due.is("NEED is 0", x.first(0, 0), NONE);
        due.is("NEED is none", x.first(0, 1), NONE);
        due.is("it is nowhere", x.first(0, 2), NONE);
    }

    private static void firstWhoAsksAhead() {
        due.of("FIRST: .. askings, i of j, .. 10 i and j");
        PassTheSalt x = Due.laid("d2;g2,0,0;g0,1,0;");
        due.is("0 asks 1", x.first(0, 1), 1);
        x = Due.laid("d2;g0,0,0;g2,1,0;");
        due.is("1 asks 0", x.first(0, 1), 10);
    }

    private static void firstOfAsManyAlone() {
        due.of("FIRST: of the first askings .. of all rows of so few");
        // 0 may ask 1 first, but then it takes three askings.
        PassTheSalt x = Due.laid("d3;g2,0,0;g0,1,0;g2,2,0;");
        due.is("need(0, 2)", x.need(0, 2), 2);
        due.is("first(0, 2)", x.first(0, 2), 21);
        x.ask(2, 1);
        due.is("the second", x.first(0, 2), 1);
    }

    private static void guestsAndDishesBad() {
        due.of("need, first, price: BAD (GUESTS, DISHES: such as there are)");
        PassTheSalt x = Due.laid("d4;g0,0,0;g0,1,0;");
        int[] noGuest = {2, 3, 4, 5, 6, 7};
        int[] noDish = {4, 5, 6, 7, 8, 9};
        for (int[] some : new int[][] {noGuest, FAR_OFF}) {
            for (int i : some) {
                due.is("need(" + i + ", 0)", x.need(i, 0), BAD);
                due.is("first(" + i + ", 0)", x.first(i, 0), BAD);
                due.is("price(" + i + ", 0)", x.price(i, 0), BAD);
                due.is("need(" + i + ", 9)", x.need(i, 9), BAD);
            }
        }
        for (int[] some : new int[][] {noDish, FAR_OFF}) {
            for (int d : some) {
                due.is("need(0, " + d + ")", x.need(0, d), BAD);
                due.is("first(0, " + d + ")", x.first(0, d), BAD);
                due.is("price(0, " + d + ")", x.price(0, d), BAD);
            }
        }
        due.is("the last of each, need", x.need(1, 3), NONE);
        due.is("the last of each, first", x.first(1, 3), NONE);
        due.is("the last of each, price", x.price(1, 3), NONE);
    }

    private static void priceOfWhatIsThere() {
        due.of("PRICE: 0, where it is before him");
        PassTheSalt x = Due.laid("g2,0,0;g2,1,0;");
        due.is("price(0, 0)", x.price(0, 0), 0);
        due.is("price(1, 1)", x.price(1, 1), 0);
    }

    private static void priceLeast() {
        due.of("PRICE: the least sum .. of HANDS for each asking and P for each pass of the SERVANT");
        int[] want = {0, 1, 2, 3, 4, 5, 5, 5};
        for (int p = 0; p < want.length; p++) {
            due.is("five steps by s" + p, Due.laid(SIX + "s" + p + ";").price(0, 5), want[p]);
        }
        due.is("five steps by s99", Due.laid(SIX + "s99;").price(0, 5), 5);
    }

    private static void priceOfNoCost() {
        due.of("a SERVANT's pass costs P (0 ..)");
        PassTheSalt x = Due.laid("d3;g2,0,0;g2,1,0;g0,9,0;s0;");
        due.is("for nothing", x.price(0, 1), 0);
        due.is("to one with nothing", x.price(2, 0), 0);
        due.is("but not what is nowhere", x.price(0, 2), NONE);
    }

    private static void priceWithNothing() {
        due.of("who changes what is before any two GUESTS, nothing, too");
        PassTheSalt x = Due.laid("d1;g0,0,0;g0,9,0;g2,9,0;s99;");
        due.is("price(1, 0)", x.price(1, 0), 99);
        due.is("price(2, 0)", x.price(2, 0), 99);
        due.of("who changes what is before any two GUESTS, HOLDs, too");
        due.is("price(1, 0)", Due.laid("g2,0,0;g2,1,0;s17;").price(1, 0), 17);
    }

    private static void priceNone() {
        due.of("PRICE .. none");
        PassTheSalt x = Due.laid("d3;g0,0,0;g0,1,0;s0;");
        due.is("price(0, 2)", x.price(0, 2), NONE);
        due.is("price(1, 2)", x.price(1, 2), NONE);
    }

    private static void priceOfHands() {
        due.of("PRICE: .. HANDS for each asking");
        due.is("in a row", Due.laid(SIX + "s99;").price(5, 0), 5);
        due.is("in a ring", Due.laid(SIX + "r1;s99;").price(5, 0), 1);
        due.is("through half of it", Due.laid(SIX + "r1;s99;").price(0, 3), 3);
        PassTheSalt six = Due.laid(SIX + "s99;");
        six.ask(0, 5);
        due.is("back from end to end", six.price(0, 0), 5);
        due.is("back from the other end", six.price(5, 5), 5);
        due.of("PRICE: .. for each asking, two of them");
        PassTheSalt x = Due.laid("d3;g2,0,0;g0,1,0;g2,2,0;s99;");
        due.is("2 asks 1, 0 asks 1", x.price(0, 2), 2);
        due.is("or the servant", Due.laid("d3;g2,0,0;g0,1,0;g2,2,0;s1;").price(0, 2), 1);
        due.of("PRICE: .. for each asking, by whomever");
        due.is("1 asks 0", Due.laid("d2;g0,0,0;g2,1,0;").price(0, 1), 1);
        due.is("0 asks 1", Due.laid("d2;g2,0,0;g0,1,0;").price(0, 1), 1);
    }

    private static void never() {
        due.of("NEVER: the DISHES (bits) of which a GUEST has no NEED (none)");
        PassTheSalt x = Due.laid("d6;g2,0,0;g2,5,0;g0,9,0;");
        due.is("all but his own", x.never(0), 62);
        due.is("all but the last", x.never(1), 31);
        due.is("all", x.never(2), 63);
        due.is("none", Due.laid(SIX).never(5), 0);
        due.is("what is nowhere", Due.laid("d6;g0,0,0;g0,1,0;").never(0), 60);
        due.is("of one dish", Due.laid("d1;g0,0,0;g0,9,0;").never(1), 1);
        PassTheSalt turned = Due.laid("d2;g2,1,0;g2,0,0;");
        due.is("the first dish, the first guest", turned.never(0), 1);
        due.is("the second dish, the second guest", turned.never(1), 2);
    }

    private static void neverFromNowOn() {
        due.of("NEVER: as dishes lie now");
        // What he had at first he can never have again.
        PassTheSalt x = Due.laid("d2;g2,0,0;g3,1,0;g2,9,0;");
        due.is("at first", x.never(0), 0);
        x.ask(0, 1);
        due.lies("asked", x, "1-0");
        due.is("of him who asked", x.never(0), 1);
        due.is("of him who was asked", x.never(1), 3);
        due.is("his NEED is none", x.need(0, 0), NONE);
        x.undo();
        due.is("undone", x.never(0), 0);
    }

    private static void neverBad() {
        due.of("never: BAD");
        PassTheSalt x = Due.laid("g0,0,0;g0,1,0;");
        due.is("never(2)", x.never(2), BAD);
        due.is("never(6)", x.never(6), BAD);
        for (int i : FAR_OFF) {
            due.is("never(" + i + ")", x.never(i), BAD);
        }
        due.is("never(1)", x.never(1), 4);
    }

    private static void stuck() {
        due.of("STUCK: 1, if by no asking DISHES come to lie otherwise, 0");
        due.is("none can be asked", Due.laid("g2,0,0;g2,1,0;g2,2,0;").stuck(), 1);
        due.is("one can be", Due.laid("g2,0,0;g2,1,0;g0,2,0;").stuck(), 0);
        due.is("no dish", Due.laid("g0,9,0;g0,9,0;").stuck(), 1);
        due.is("one dish", Due.laid("g0,9,0;g0,1,0;").stuck(), 1);
        due.is("two dishes", Due.laid("g0,0,0;g0,1,0;").stuck(), 0);
        due.is("the first one alone can be", Due.laid("g0,0,0;g2,1,0;").stuck(), 0);
        due.is("the last one alone can be", Due.laid("g2,0,0;g0,1,0;").stuck(), 0);
    }

    private static void stuckThoughAsked() {
        due.of("STUCK: .. DISHES come to lie otherwise");
        PassTheSalt x = Due.laid("d2;g3,0,0;g0,1,0;");
        due.is("all comes back", x.stuck(), 1);
        due.is("though one can be asked", x.ask(0, 1), 0);
        due.is("then", x.stuck(), 1);
    }

    private static void stuckFromNowOn() {
        due.of("STUCK: as dishes lie now");
        // The CHILD who is asked gives away what comes, and HOLDs alone have dishes then.
        PassTheSalt x = Due.laid("d2;g2,0,0;g3,1,0;g2,9,0;");
        due.is("at first", x.stuck(), 0);
        x.ask(0, 1);
        due.lies("asked", x, "1-0");
        due.is("then", x.stuck(), 1);
        x.undo();
        due.is("undone", x.stuck(), 0);
    }

    private static void stuckOfSix() {
        due.of("STUCK: by no asking, of six GUESTS, too, and whatever was looked at before");
        PassTheSalt x = Due.laid("d4;g2,1,0;g2,2,0;g1,9,0;g3,0,0;g2,9,0;g2,3,0;");
        // 0 asks 3: the OWN one keeps dish 1, and by him, whom HOLDs may ask, all dishes come to 0.
        due.is("all that comes to be is looked at", x.never(0), 0);
        // 3, a CHILD, changes what came to him with 4, a HOLD: dishes are before HOLDs alone then.
        due.is("5 asks 3", x.ask(5, 3), 0);
        due.lies("then", x, "12--30");
        due.is("then", x.stuck(), 1);
        x = Due.laid("d2;g1,9,0;g2,9,0;g2,9,0;g2,9,0;g3,1,0;g3,0,0;r1;");
        // 4 and 5, both CHILDREN: 4 changes all back with 5, and 5 what is before him then with 0.
        due.is("4 asks 5", x.ask(4, 5), 1);
        due.lies("4 has asked 5", x, "0---1-");
        // 4 changes what came to him with 5; and 5, a CHILD, changes back whatever 0 and he ask for.
        due.is("4 asks 0", x.ask(4, 0), NONE);
        due.lies("4 has asked 0", x, "1----0");
        due.is("stuck by 5", x.stuck(), 1);
        x.undo();
        due.is("undone", x.stuck(), 0);
        due.is("need", x.need(0, 1), 1);
        due.is("first", x.first(0, 1), 4);
    }

    private static void restAtOnce() {
        due.of("REST: 0, where all have what they want");
        due.is("all", Due.laid("g2,0,1;g2,1,2;g2,2,4;").rest(), 0);
    }

    private static void restWithoutWants() {
        due.of("REST: .. before each GUEST who wants DISHES");
        due.is("nobody does", Due.laid("g2,0,0;g2,1,0;").rest(), 0);
        due.is("who does not has what another one wants", Due.laid("g0,0,2;g0,1,0;").rest(), 1);
        due.is("who does not has nothing", Due.laid("g0,9,0;g0,1,2;").rest(), 0);
    }

    private static void restOfOneOfThese() {
        due.of("REST: .. is one of these");
        due.is("any of six", Due.laid("d6;g2,5,63;g2,0,63;").rest(), 0);
        due.is("one of two", Due.laid("d3;g0,0,6;g0,1,5;g2,2,0;").rest(), 1);
        due.is("none of them", Due.laid("d3;g2,0,6;g2,1,5;").rest(), NONE);
    }

    private static void restNone() {
        due.of("REST .. none");
        due.is("two want one", Due.laid("g0,0,1;g0,1,1;").rest(), NONE);
        due.is("it is nowhere", Due.laid("g0,0,4;g0,1,0;").rest(), NONE);
        due.is("nothing before one who wants", Due.laid("g0,0,0;g0,9,7;g0,1,0;").rest(), NONE);
        due.is("HOLDs", Due.laid("g2,0,2;g2,1,1;").rest(), NONE);
        due.is("though all 720 ways to lie come to be", Due.laid("d6;g0,0,1;g0,1,1;g0,2,0;g0,3,0;g0,4,0;g0,5,0;").rest(), NONE);
    }

    private static void restFewest() {
        due.of("REST: the fewest askings");
        due.is("a round of six", Due.laid("d6;g0,0,2;g0,1,4;g0,2,8;g0,3,16;g0,4,32;g0,5,1;").rest(), 5);
        due.is("three pairs", Due.laid("d6;g0,0,2;g0,1,1;g0,2,8;g0,3,4;g0,4,32;g0,5,16;").rest(), 3);
        PassTheSalt x = new PassTheSalt();
        due.is("a round of three", x.rest(), 2);
        x.ask(0, 1);
        due.is("one of two done", x.rest(), 1);
        x.undo();
        due.is("undone", x.rest(), 2);
        x = Due.laid("d6;g0,0,1;g0,1,2;g0,2,4;g0,3,8;g0,4,16;g0,5,32;");
        x.ask(0, 1);
        x.ask(2, 3);
        x.ask(4, 5);
        due.is("back to how they were LAID", x.rest(), 3);
    }

    private static void holdsUpNone() {
        due.of("HOLDS UP: for none: the lowest");
        String[] tables = {"g0,0,7;g0,1,7;", "g2,0,7;g2,1,7;", "g0,0,0;g2,1,0;", "g0,9,7;g0,9,7;"};
        for (String text : tables) {
            due.is("who, of " + text, Due.laid(text).holdsUp(0), 0);
            due.is("how many, of " + text, Due.laid(text).holdsUp(1), 0);
        }
    }

    private static void holdsUpLowest() {
        due.of("HOLDS UP: the GUEST by whom it is so for most, of several the lowest");
        // 1 gets both dishes only as an OWN one, and only while 2 can be asked.
        PassTheSalt x = Due.laid("d2;g2,0,0;g1,9,3;g0,1,0;");
        due.is("who", x.holdsUp(0), 1);
        due.is("how many", x.holdsUp(1), 2);
    }

    private static void holdsUpMost() {
        due.of("HOLDS UP: .. by whom it is so for most");
        // 2 alone can be asked, and has nothing for ever then; by 1 only what he would keep himself is held up.
        PassTheSalt x = Due.laid("d2;g2,0,2;g1,9,3;g0,1,1;");
        due.is("who", x.holdsUp(0), 2);
        due.is("how many", x.holdsUp(1), 3);
        x = Due.laid("d2;g0,0,2;g2,1,1;");
        due.is("the first one alone can be asked: who", x.holdsUp(0), 0);
        due.is("how many", x.holdsUp(1), 2);
    }

    private static void holdsUpComesToBeNone() {
        due.of("HOLDS UP: .. DISHES that they want NEED would come to be none");
        PassTheSalt x = Due.laid("d3;g2,0,7;g0,1,7;");
        due.is("not what is before them, not what is nowhere", x.holdsUp(1), 2);
        due.is("who", x.holdsUp(0), 1);
        due.is("not what they do not want", Due.laid("d3;g2,0,2;g0,1,0;").holdsUp(1), 1);
        due.is("none wants anything", Due.laid("d2;g2,1,0;g0,0,0;").holdsUp(1), 0);
    }

    private static void holdsUpNoMoreOwn() {
        due.of("HOLDS UP: if one GUEST were a HOLD (no OWN then)");
        PassTheSalt x = Due.laid("d2;g0,0,0;g1,9,3;g0,1,0;");
        due.is("who", x.holdsUp(0), 1);
        due.is("how many", x.holdsUp(1), 2);
        due.of("HOLDS UP: if one GUEST were a HOLD (no CHILD then)");
        // 2 has dish 0 only by the CHILD before him.
        x = Due.laid("d2;g2,0,0;g3,1,0;g0,9,1;");
        due.is("who", x.holdsUp(0), 1);
        due.is("how many", x.holdsUp(1), 1);
    }

    private static void holdsUpFromNowOn() {
        due.of("HOLDS UP: as dishes lie now");
        // Once the CHILD has given away what came to him, all dishes are before HOLDs for ever.
        PassTheSalt x = Due.laid("d2;g2,0,2;g3,1,0;g2,9,1;");
        due.is("who", x.holdsUp(0), 1);
        due.is("how many", x.holdsUp(1), 2);
        x.ask(0, 1);
        due.is("asked, who", x.holdsUp(0), 0);
        due.is("asked, how many", x.holdsUp(1), 0);
        x.undo();
        due.is("undone, who", x.holdsUp(0), 1);
        due.is("undone, how many", x.holdsUp(1), 2);
    }

    private static void holdsUpBad() {
        due.of("holdsUp: BAD");
        PassTheSalt x = new PassTheSalt();
        due.is("holdsUp(2)", x.holdsUp(2), BAD);
        for (int what : FAR_OFF) {
            due.is("holdsUp(" + what + ")", x.holdsUp(what), BAD);
        }
    }

    private static void likedMore() {
        due.of("LIKED .. to each of whom what is before the other one is worth more");
        String[] tables = {"d2;g0,0,0;w12;g0,1,0;w21;", "d2;g0,0,0;w22;g0,1,0;w21;", "d2;g0,0,0;w12;g0,1,0;w22;",
            "d2;g0,0,0;w21;g0,1,0;w21;", "d2;g2,0,0;w01;g2,1,0;w10;"};
        int[] want = {1, 0, 0, 0, 1};
        for (int k = 0; k < tables.length; k++) {
            due.is("liked(0) of " + tables[k], Due.laid(tables[k]).liked(0), want[k]);
            due.is("liked(1) of " + tables[k], Due.laid(tables[k]).liked(1), want[k] == 1 ? 1 : NONE);
        }
    }

    private static void likedNothing() {
        due.of("LIKED .. (nothing 0)");
        String[] tables = {"d2;g0,0,0;w00;g0,9,0;w99;", "d2;g0,9,0;w99;g0,0,0;w00;", "d2;g0,9,0;w99;g0,9,0;w99;"};
        for (String text : tables) {
            due.is("liked(0) of " + text, Due.laid(text).liked(0), 0);
            due.is("liked(1) of " + text, Due.laid(text).liked(1), NONE);
        }
    }

    private static void likedNotCold() {
        due.of("LIKED .. (not cold ..)");
        PassTheSalt x = Due.laid("d4;g0,0,0;w1200;g0,1,0;w2100;g0,2,0;g0,3,0;c9;");
        x.ask(2, 3);
        x.ask(2, 3);
        due.is("all is cold", x.evening(), 0);
        due.is("liked(0)", x.liked(0), 1);
        due.is("liked(1)", x.liked(1), 1);
    }

    private static void likedFirst() {
        due.of("LIKED: how many; the first, as 10 i and j; none");
        PassTheSalt x = Due.laid("d6;g0,0,0;w011111;g0,1,0;w101111;g0,2,0;w110111;g0,3,0;w111011;g0,4,0;w111101;g0,5,0;w111110;");
        due.is("all of six", x.liked(0), 15);
        due.is("the first", x.liked(1), 1);
        x = Due.laid("d6;g0,0,0;g0,1,0;g0,2,0;g0,3,0;w111011;g0,4,0;w111101;g0,5,0;w111110;");
        due.is("of the last three", x.liked(0), 3);
        due.is("the first", x.liked(1), 34);
        due.is("none", Due.laid(SIX).liked(0), 0);
        due.is("no first", Due.laid(SIX).liked(1), NONE);
    }

    private static void likedBad() {
        due.of("liked: BAD");
        PassTheSalt x = new PassTheSalt();
        due.is("liked(2)", x.liked(2), BAD);
        for (int what : FAR_OFF) {
            due.is("liked(" + what + ")", x.liked(what), BAD);
        }
    }

    private static void mostOfAll() {
        due.of("MOST: of all ways to lay all DISHES .. no two before one");
        due.is("both best before 0", Due.laid("d2;g0,0,0;w99;g0,1,0;w12;").most(), 11);
        due.is("six nines", Due.laid("d6;g0,0,0;w000009;g0,1,0;w000090;g0,2,0;w000900;g0,3,0;w009000;"
                + "g0,4,0;w090000;g0,5,0;w900000;").most(), 54);
        due.is("HOLDs, too", Due.laid("d2;g2,0,0;w09;g2,1,0;w90;").most(), 18);
        due.is("before one who has nothing", Due.laid("d1;g0,0,0;w1;g0,9,0;w8;").most(), 8);
        due.is("all worth nothing", Due.laid("d2;g0,0,0;w00;g0,1,0;w00;").most(), 0);
    }

    private static void mostOfWhatIsThere() {
        due.of("MOST: .. DISHES that are before GUESTS now");
        due.is("one of six", Due.laid("d6;g0,0,0;w299999;g0,9,0;w399999;").most(), 3);
        due.is("one of six, of six", Due.laid("d6;g0,9,0;g0,9,0;g0,9,0;g0,5,0;g0,9,0;g0,9,0;w999997;").most(), 7);
    }

    private static void mostNotCold() {
        due.of("MOST: .. (not cold)");
        PassTheSalt x = Due.laid("d2;g0,0,0;w59;g0,1,0;w95;c9;");
        for (int k = 0; k < 3; k++) {
            x.ask(0, 1);
            due.is("behind " + k, x.most(), 18);
        }
    }

    private static void mostOfNone() {
        due.of("MOST: of no dish");
        due.is("most", Due.laid("d6;g0,9,0;w999999;g0,9,0;w999999;").most(), 0);
    }

    private static void seatsFirst() {
        due.of("SEATS: of all two GUESTS (i below j) .. those by which REST is least, of several the first");
        due.is("one of three, all alike", new PassTheSalt().seats(), 1);
        due.is("the last two", Due.laid("d6;g0,0,1;g0,1,2;g0,2,4;g0,3,8;g0,4,32;g0,5,16;").seats(), 45);
        due.is("the first and the last", Due.laid("d6;g0,0,32;g0,1,2;g0,2,4;g0,3,8;g0,4,16;g0,5,1;").seats(), 5);
        due.is("one of two pairs", Due.laid("d6;g0,0,1;g0,1,4;g0,2,2;g0,3,8;g0,4,32;g0,5,16;").seats(), 12);
        // By 0 and 1 it is one, where now it is none; by 0 and 2 it is 0.
        due.is("not the first that is less, but the least", Due.laid("d2;g0,9,2;g0,0,0;g0,1,0;").seats(), 2);
    }

    private static void seatsDishesStay() {
        due.of("SEATS: .. (KINDS, what they want, what is worth what to them; DISHES stay)");
        PassTheSalt x = Due.laid("d2;g0,0,2;g0,1,1;");
        due.is("seats", x.seats(), 1);
        due.lies("none changes seats in truth", x, "01");
        due.is("what they want stays", x.guest(0, 2), 2);
        due.is("rest, now", x.rest(), 1);
    }

    private static void seatsNotLess() {
        due.of("SEATS .. none (it is not less than now ..)");
        due.is("all at rest", Due.laid("g0,0,1;g0,1,2;g0,2,4;").seats(), NONE);
        due.is("nobody wants", Due.laid("g0,0,0;g0,1,0;").seats(), NONE);
        // By one asking past the OWN one all three dishes move; no two seats do as much.
        PassTheSalt x = Due.laid("d3;g0,0,4;g1,1,1;w654;g0,2,2;");
        due.is("rest", x.rest(), 1);
        due.is("one, as now", x.seats(), NONE);
    }

    private static void seatsNone() {
        due.of("SEATS .. none (.. or none)");
        due.is("two want one", Due.laid("g0,0,1;g0,1,1;").seats(), NONE);
        due.is("it is nowhere", Due.laid("g0,0,4;g0,1,0;").seats(), NONE);
        due.is("three HOLDs in a round", Due.laid("g2,0,2;g2,1,4;g2,2,1;").seats(), NONE);
        due.is("no dish", Due.laid("g0,9,1;g0,9,2;").seats(), NONE);
    }

    private static void seatsFromNone() {
        due.of("SEATS: .. REST is least, where it is none now");
        due.is("two HOLDs", Due.laid("g2,0,2;g2,1,1;").seats(), 1);
        due.is("nothing before who wants", Due.laid("g2,9,1;g2,0,0;").seats(), 1);
        due.is("of six", Due.laid("d6;g2,0,1;g2,1,2;g2,2,32;g2,3,8;g2,4,16;g2,5,4;").seats(), 25);
    }

    private static void seatsFromNowOn() {
        due.of("SEATS: as dishes lie now");
        // Kept between, dish 0 leaves nothing to him who was asked: only seats bring the rest back that was at first.
        PassTheSalt x = Due.laid("d2;g0,0,1;g1,9,0;g0,1,2;");
        due.is("at rest", x.seats(), NONE);
        x.ask(0, 2);
        due.is("rest", x.rest(), NONE);
        due.is("1 and 2, then 0 asks 1", x.seats(), 12);
        x.undo();
        due.is("undone", x.seats(), NONE);
    }

    private static void seatsTakeAllAlong() {
        due.of("SEATS: .. (KINDS ..)");
        // By 0 and 1 the CHILD would sit where he gives back what comes to him.
        due.is("a CHILD", Due.laid("d3;g3,0,2;g1,2,0;g0,1,4;").seats(), 2);
        due.of("SEATS: .. what is worth what to them");
        // By 0 and 1 the OWN one would sit between, and keep what is worth more to him.
        due.is("an OWN one", Due.laid("d3;g1,0,2;w202;g2,1,4;g3,2,1;").seats(), 2);
        due.of("SEATS: .. what they want");
        due.is("a HOLD who wants what is before another one", Due.laid("d3;g2,0,4;g2,1,2;g2,2,1;").seats(), 2);
    }

    private static void wentBad() {
        due.of("WENT: .. n (0 to 8) .. BAD");
        PassTheSalt x = new PassTheSalt();
        due.is("went(9)", x.went(9), BAD);
        due.is("went(10)", x.went(10), BAD);
        for (int n : FAR_OFF) {
            due.is("went(" + n + ")", x.went(n), BAD);
        }
        due.is("went(0)", x.went(0), 1);
        due.is("went(8)", x.went(8), 559872);
    }

    private static void wentNone() {
        due.of("WENT: by how many rows: 0");
        PassTheSalt x = Due.laid("d2;g2,0,0;g2,1,0;");
        due.is("of no asking", x.went(0), 1);
        for (int n = 1; n <= 8; n++) {
            due.is("went(" + n + ")", x.went(n), 0);
        }
        x = Due.laid("d2;g0,0,0;g0,1,0;");
        x.ask(0, 1);
        due.is("otherwise than LAID, by no asking", x.went(0), 0);
        due.is("by one", x.went(1), 2);
        due.is("by two", x.went(2), 0);
    }

    private static void wentFromLaid() {
        due.of("WENT: .. from how they were LAID");
        PassTheSalt x = Due.laid("d2;g0,0,0;g0,1,0;");
        x.ask(0, 1);
        x.keep();
        x.ask(0, 1);
        due.is("as LAID again", x.went(0), 1);
        x.back();
        due.is("not from what was KEPT", x.went(0), 0);
        x.lay();
        due.is("LAID again", x.went(0), 1);
    }

    private static void laidAnew() {
        due.of("LAID: nothing of the table before is left");
        PassTheSalt x = Due.laid("d2;g0,0,2;g2,1,1;s3;");
        due.same("of the first", Whole.of(x), Whole.of(Due.laid("d2;g0,0,2;g2,1,1;s3;")));
        x.wipe();
        Due.write(x, "d2;g2,0,1;g2,1,2;s3;");
        x.lay();
        due.same("of the second", Whole.of(x), Whole.of(Due.laid("d2;g2,0,1;g2,1,2;s3;")));
        x.wipe();
        Due.write(x, "d3;g0,2,2;g0,1,1;g0,0,3;");
        x.lay();
        due.same("of the third", Whole.of(x), Whole.of(Due.laid("d3;g0,2,2;g0,1,1;g0,0,3;")));
    }

    private static void wentBeyondInt() {
        due.of("long went(int n)");
        due.is("of six guests", Due.laid(SIX).went(8), 2_610_858_240L);
    }
}
