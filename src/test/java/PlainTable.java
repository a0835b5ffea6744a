import java.util.ArrayDeque;
import java.util.ArrayList;
import java.util.Arrays;
import java.util.HashMap;
import java.util.List;
import java.util.Map;
import java.util.PriorityQueue;
import java.util.regex.Matcher;
import java.util.regex.Pattern;

/** The document once more, in the plainest way: slow, unpacked, nothing remembered between calls. */
final class PlainTable {
    private static final int BAD = -1, NO = -2, FULL = -3, NONE = -4;
    private static final Pattern ITEM = Pattern.compile(
            "\\G(?:([drsc])(\\d{1,2});|g(\\d{1,2}),(\\d{1,2}),(\\d{1,2});|w(\\d+);)");

    private record Guest(int kind, int dish, int wants, int[] worths) {
    }

    private static final class Told {
        final List<Guest> guests = new ArrayList<>();
        int dishes = 3;
        int ring = 0;
        int servant = 9;
        int cold = 1;
        int fault = NONE;
    }

    /** What is before each guest (-1: nothing), what was had, minutes. */
    private record State(List<Integer> lie, List<Integer> had, int minute) {
    }

    private StringBuilder text = new StringBuilder();
    private Told table;
    private List<Guest> guests;
    private List<Integer> laid;
    private State now;
    private List<State> past = new ArrayList<>();
    private List<State> kept = new ArrayList<>();

    PlainTable() {
        text.append("d3;g0,0,2;g0,1,4;g0,2,1;");
        lay();
        text.setLength(0);
    }

    private static Told read(String text) {
        Told told = new Told();
        Matcher m = ITEM.matcher(text);
        int place = 0;
        while (place < text.length()) {
            if (!m.find(place) || m.start() != place || !fits(told, m)) {
                told.fault = place;
                return told;
            }
            place = m.end();
        }
        return told;
    }

    private static boolean fits(Told told, Matcher m) {
        if (m.group(6) != null) {
            String figures = m.group(6);
            if (told.guests.isEmpty() || figures.length() != told.dishes) {
                return false;
            }
            int[] worths = told.guests.get(told.guests.size() - 1).worths();
            for (int d = 0; d < figures.length(); d++) {
                worths[d] = figures.charAt(d) - '0';
            }
            return true;
        }
        if (m.group(1) == null) {
            int kind = Integer.parseInt(m.group(3));
            int dish = Integer.parseInt(m.group(4));
            int wants = Integer.parseInt(m.group(5));
            for (Guest g : told.guests) {
                if (dish != 9 && g.dish() == dish) {
                    return false;
                }
            }
            if (told.guests.size() == 6 || kind > 3 || dish != 9 && dish >= told.dishes || wants >= 1 << told.dishes) {
                return false;
            }
            int[] worths = new int[told.dishes];
            Arrays.fill(worths, 1);
            told.guests.add(new Guest(kind, dish == 9 ? -1 : dish, wants, worths));
            return true;
        }
        int n = Integer.parseInt(m.group(2));
        switch (m.group(1)) {
            case "d":
                told.dishes = n;
                return n >= 1 && n <= 6 && told.guests.isEmpty();
            case "r":
                told.ring = n;
                return n < 2;
            case "s":
                told.servant = n;
                return true;
            default:
                told.cold = n;
                return n < 10;
        }
    }

    int write(int n, long v) {
        if (n < 1 || n > 8) {
            return BAD;
        }
        if (text.length() + n > 300) {
            return FULL;
        }
        for (int k = 8 - n; k < 8; k++) {
            text.append((char) (v >>> 56 - 8 * k & 255));
        }
        return text.length();
    }

    int wipe() {
        int was = text.length();
        text = new StringBuilder();
        return was;
    }

    int fault() {
        return read(text.toString()).fault;
    }

    int lay() {
        Told told = read(text.toString());
        if (told.fault != NONE || told.guests.size() < 2) {
            return NO;
        }
        table = told;
        guests = told.guests;
        laid = new ArrayList<>();
        for (Guest g : guests) {
            laid.add(g.dish());
        }
        List<Integer> none = new ArrayList<>();
        for (int k = 0; k < guests.size(); k++) {
            none.add(0);
        }
        now = new State(laid, withHad(none, laid), 0);
        past.clear();
        kept.clear();
        return guests.size();
    }

    private static List<Integer> withHad(List<Integer> had, List<Integer> lie) {
        List<Integer> all = new ArrayList<>();
        for (int k = 0; k < lie.size(); k++) {
            all.add(lie.get(k) < 0 ? had.get(k) : had.get(k) | 1 << lie.get(k));
        }
        return all;
    }

    private boolean noGuest(int i) {
        return i < 0 || i >= guests.size();
    }

    private boolean noDish(int d) {
        return d < 0 || d >= table.dishes;
    }

    int guest(int i, int what) {
        if (noGuest(i) || what < 0 || what > 3) {
            return BAD;
        }
        int before = now.lie().get(i);
        int[] all = {guests.get(i).kind(), before < 0 ? NONE : before, guests.get(i).wants(), now.had().get(i)};
        return all[what];
    }

    private static int worthTo(Guest g, int dish) {
        return dish < 0 ? 0 : g.worths()[dish];
    }

    int worth(int i, int d, int t) {
        if (noGuest(i) || noDish(d) || t < 0 || t > 99) {
            return BAD;
        }
        return cold(i, d, t);
    }

    private int cold(int i, int d, int t) {
        int tenths = 10 - table.cold * t;
        return tenths < 0 ? 0 : worthTo(guests.get(i), d) * tenths / 10;
    }

    /** All seats from i to j, both too. */
    private List<Integer> way(int i, int j) {
        int n = guests.size();
        List<Integer> right = new ArrayList<>();
        List<Integer> left = new ArrayList<>();
        for (int s = i; s != j; s = (s + 1) % n) {
            right.add(s);
        }
        for (int s = i; s != j; s = (s + n - 1) % n) {
            left.add(s);
        }
        right.add(j);
        left.add(j);
        if (table.ring == 0) {
            return i < j ? right : left;
        }
        return left.size() < right.size() ? left : right;
    }

    int hands(int i, int j) {
        return noGuest(i) || noGuest(j) ? BAD : way(i, j).size() - 1;
    }

    private boolean can(List<Guest> who, List<Integer> lie, int i, int j) {
        return i != j && lie.get(i) >= 0 && lie.get(j) >= 0 && who.get(j).kind() != 2;
    }

    private List<Integer> asked(List<Guest> who, List<Integer> was, int i, int j) {
        List<Integer> lie = new ArrayList<>(was);
        List<Integer> way = way(i, j);
        int a = lie.get(i);
        int b = lie.get(j);
        for (int k = 1; k < way.size() - 1; k++) {
            int s = way.get(k);
            if (who.get(s).kind() == 1 && worthTo(who.get(s), a) > worthTo(who.get(s), lie.get(s))) {
                a = lie.set(s, a);
            }
        }
        lie.set(j, a);
        for (int k = way.size() - 2; k > 0; k--) {
            int s = way.get(k);
            if (who.get(s).kind() == 1 && worthTo(who.get(s), b) > worthTo(who.get(s), lie.get(s))) {
                b = lie.set(s, b);
            }
        }
        lie.set(i, b);
        for (int s : new int[] {i, j}) {
            boolean lastOfRow = table.ring == 0 && s == who.size() - 1;
            if (who.get(s).kind() == 3 && lie.get(s) >= 0 && !lastOfRow) {
                int next = (s + 1) % who.size();
                lie.set(s, lie.set(next, lie.get(s)));
            }
        }
        return lie;
    }

    int ask(int i, int j) {
        if (noGuest(i) || noGuest(j)) {
            return BAD;
        }
        if (!can(guests, now.lie(), i, j)) {
            return NO;
        }
        past.add(now);
        if (past.size() > 8) {
            past.remove(0);
        }
        List<Integer> lie = asked(guests, now.lie(), i, j);
        now = new State(lie, withHad(now.had(), lie), now.minute() + hands(i, j));
        return guest(i, 1);
    }

    int undo() {
        if (past.isEmpty()) {
            return NO;
        }
        now = past.remove(past.size() - 1);
        return past.size();
    }

    int evening() {
        int sum = 0;
        for (int i = 0; i < guests.size(); i++) {
            sum += cold(i, now.lie().get(i), now.minute());
        }
        return sum;
    }

    /** Fewest askings to every way to lie that can come to be. */
    private Map<List<Integer>, Integer> reach(List<Guest> who, List<Integer> from) {
        Map<List<Integer>, Integer> steps = new HashMap<>();
        ArrayDeque<List<Integer>> queue = new ArrayDeque<>();
        steps.put(from, 0);
        queue.add(from);
        while (!queue.isEmpty()) {
            List<Integer> lie = queue.remove();
            for (int i = 0; i < who.size(); i++) {
                for (int j = 0; j < who.size(); j++) {
                    if (can(who, lie, i, j)) {
                        List<Integer> to = asked(who, lie, i, j);
                        if (!steps.containsKey(to)) {
                            steps.put(to, steps.get(lie) + 1);
                            queue.add(to);
                        }
                    }
                }
            }
        }
        return steps;
    }

    private static int needIn(Map<List<Integer>, Integer> steps, int i, int d) {
        int least = Integer.MAX_VALUE;
        for (Map.Entry<List<Integer>, Integer> e : steps.entrySet()) {
            if (e.getKey().get(i) == d) {
                least = Math.min(least, e.getValue());
            }
        }
        return least == Integer.MAX_VALUE ? NONE : least;
    }

    int need(int i, int d) {
        return noGuest(i) || noDish(d) ? BAD : needIn(reach(guests, now.lie()), i, d);
    }

    int first(int i, int d) {
        int need = need(i, d);
        if (need == BAD) {
            return BAD;
        }
        if (need == NONE || need == 0) {
            return NONE;
        }
        for (int a = 0; a < guests.size(); a++) {
            for (int b = 0; b < guests.size(); b++) {
                if (can(guests, now.lie(), a, b)
                        && needIn(reach(guests, asked(guests, now.lie(), a, b)), i, d) == need - 1) {
                    return 10 * a + b;
                }
            }
        }
        throw new IllegalStateException();
    }

    private record Priced(List<Integer> lie, int price) {
    }

    int price(int i, int d) {
        if (noGuest(i) || noDish(d)) {
            return BAD;
        }
        Map<List<Integer>, Integer> done = new HashMap<>();
        PriorityQueue<Priced> queue = new PriorityQueue<>((x, y) -> Integer.compare(x.price(), y.price()));
        queue.add(new Priced(now.lie(), 0));
        while (!queue.isEmpty()) {
            Priced p = queue.remove();
            if (p.lie().get(i) == d) {
                return p.price();
            }
            if (done.put(p.lie(), p.price()) != null) {
                continue;
            }
            for (int a = 0; a < guests.size(); a++) {
                for (int b = 0; b < guests.size(); b++) {
                    if (can(guests, p.lie(), a, b)) {
                        push(queue, done, asked(guests, p.lie(), a, b), p.price() + hands(a, b));
                    }
                    List<Integer> passed = new ArrayList<>(p.lie());
                    passed.set(a, passed.set(b, passed.get(a)));
                    push(queue, done, passed, p.price() + table.servant);
                }
            }
        }
        return NONE;
    }

    private static void push(PriorityQueue<Priced> queue, Map<List<Integer>, Integer> done, List<Integer> lie, int price) {
        if (!done.containsKey(lie)) {
            queue.add(new Priced(lie, price));
        }
    }

    int never(int i) {
        if (noGuest(i)) {
            return BAD;
        }
        int bits = 0;
        Map<List<Integer>, Integer> steps = reach(guests, now.lie());
        for (int d = 0; d < table.dishes; d++) {
            if (needIn(steps, i, d) == NONE) {
                bits |= 1 << d;
            }
        }
        return bits;
    }

    int stuck() {
        return reach(guests, now.lie()).size() == 1 ? 1 : 0;
    }

    private int restOf(List<Guest> who) {
        int least = Integer.MAX_VALUE;
        for (Map.Entry<List<Integer>, Integer> e : reach(who, now.lie()).entrySet()) {
            boolean all = true;
            for (int i = 0; i < who.size(); i++) {
                int before = e.getKey().get(i);
                int wants = who.get(i).wants();
                all &= wants == 0 || before >= 0 && (wants >> before & 1) == 1;
            }
            if (all) {
                least = Math.min(least, e.getValue());
            }
        }
        return least == Integer.MAX_VALUE ? NONE : least;
    }

    int rest() {
        return restOf(guests);
    }

    int holdsUp(int what) {
        if (what != 0 && what != 1) {
            return BAD;
        }
        Map<List<Integer>, Integer> real = reach(guests, now.lie());
        int who = 0;
        int most = 0;
        for (int h = 0; h < guests.size(); h++) {
            List<Guest> other = new ArrayList<>(guests);
            Guest g = guests.get(h);
            other.set(h, new Guest(2, g.dish(), g.wants(), g.worths()));
            Map<List<Integer>, Integer> held = reach(other, now.lie());
            int many = 0;
            for (int i = 0; i < guests.size(); i++) {
                for (int d = 0; d < table.dishes; d++) {
                    if ((guests.get(i).wants() >> d & 1) == 1 && needIn(real, i, d) != NONE && needIn(held, i, d) == NONE) {
                        many++;
                    }
                }
            }
            if (many > most) {
                most = many;
                who = h;
            }
        }
        return what == 0 ? who : most;
    }

    int liked(int what) {
        if (what != 0 && what != 1) {
            return BAD;
        }
        List<Integer> all = new ArrayList<>();
        for (int i = 0; i < guests.size(); i++) {
            for (int j = i + 1; j < guests.size(); j++) {
                int a = now.lie().get(i);
                int b = now.lie().get(j);
                if (worthTo(guests.get(i), b) > worthTo(guests.get(i), a)
                        && worthTo(guests.get(j), a) > worthTo(guests.get(j), b)) {
                    all.add(10 * i + j);
                }
            }
        }
        return what == 0 ? all.size() : all.isEmpty() ? NONE : all.get(0);
    }

    int most() {
        return mostFrom(0, new boolean[guests.size()]);
    }

    private int mostFrom(int dish, boolean[] taken) {
        if (dish == table.dishes) {
            return 0;
        }
        if (!now.lie().contains(dish)) {
            return mostFrom(dish + 1, taken);
        }
        int best = Integer.MIN_VALUE;
        for (int i = 0; i < taken.length; i++) {
            if (!taken[i]) {
                taken[i] = true;
                best = Math.max(best, worthTo(guests.get(i), dish) + mostFrom(dish + 1, taken));
                taken[i] = false;
            }
        }
        return best;
    }

    int seats() {
        int rest = rest();
        int least = rest == NONE ? Integer.MAX_VALUE : rest;
        int best = NONE;
        for (int i = 0; i < guests.size(); i++) {
            for (int j = i + 1; j < guests.size(); j++) {
                List<Guest> other = new ArrayList<>(guests);
                other.set(i, other.set(j, other.get(i)));
                int then = restOf(other);
                if (then != NONE && then < least) {
                    least = then;
                    best = 10 * i + j;
                }
            }
        }
        return best;
    }

    long went(int n) {
        if (n < 0 || n > 8) {
            return BAD;
        }
        Map<List<Integer>, Long> ways = new HashMap<>();
        ways.put(laid, 1L);
        for (int k = 0; k < n; k++) {
            Map<List<Integer>, Long> next = new HashMap<>();
            for (Map.Entry<List<Integer>, Long> e : ways.entrySet()) {
                for (int i = 0; i < guests.size(); i++) {
                    for (int j = 0; j < guests.size(); j++) {
                        if (can(guests, e.getKey(), i, j)) {
                            next.merge(asked(guests, e.getKey(), i, j), e.getValue(), Long::sum);
                        }
                    }
                }
            }
            ways = next;
        }
        return ways.getOrDefault(now.lie(), 0L);
    }

    int drawn(int z, int n, int d) {
        if (z < 0 || z > 9999 || n < 1 || n > 60 || d < -1 || d >= table.dishes) {
            return BAD;
        }
        List<Integer> lie = now.lie();
        int many = 0;
        for (int k = 0; k < n; k++) {
            long x = 7919L * z + 6151L * k + 1;
            long draw = x * x % 65521;
            int j = (int) (draw / 8 % guests.size());
            int i = (int) (draw % guests.size());
            if (can(guests, lie, i, j)) {
                lie = asked(guests, lie, i, j);
                many++;
            }
        }
        return d == -1 ? many : lie.contains(d) ? lie.indexOf(d) : NONE;
    }

    int keep() {
        if (kept.size() == 2) {
            return FULL;
        }
        kept.add(now);
        return kept.size();
    }

    int back() {
        if (kept.isEmpty()) {
            return NO;
        }
        now = kept.remove(kept.size() - 1);
        past.clear();
        return kept.size();
    }

    int count(int what) {
        int[] all = {guests.size(), table.dishes, now.minute(), past.size(), kept.size(), text.length(), table.ring};
        return what < 0 || what >= all.length ? BAD : all[what];
    }
}
