import java.util.ArrayDeque;
import java.util.ArrayList;
import java.util.Arrays;
import java.util.Collections;
import java.util.List;
import java.util.Random;

/** Long runs of drawn calls, each answer beside that of a plain model that handles lists of cards. */
public final class ModelTest {
    private static final int RUNS = 1500;
    private static final int CALLS = 512;
    private static final String[] NAMES = {
        "letter", "blank", "fault", "routine", "step", "as", "at", "goes", "act", "whole", "exchange", "sort",
        "change", "round", "after", "rings", "bring", "home", "odds", "see", "forget", "runs", "image", "restore",
        "count", "digest"
    };
    private static final int[] PARAMETERS = {
        1, 0, 0, 0, 2, 2, 1, 2, 1, 0, 2, 0,
        3, 1, 2, 1, 3, 1, 4, 3, 0, 3, 0, 0,
        1, 0
    };
    private static final int[] EDGES = {Integer.MIN_VALUE, -1, 0, 1, 1000000000, 1000000001, Integer.MAX_VALUE};

    private static int wrong = 0;
    private static final int[] answered = new int[NAMES.length];

    public static void main(String[] args) {
        for (int run = 0; run < RUNS && wrong < 20; run++) runOnce(run);
        for (int i = 0; i < NAMES.length; i++) {
            if (answered[i] < 1000) {
                wrong++;
                System.out.println(NAMES[i] + " was answered but " + answered[i] + " times");
            }
        }
        System.out.println(RUNS + " runs, " + wrong + " answers other than the model's");
        if (wrong != 0) System.exit(1);
    }

    private static void runOnce(int run) {
        Random random = new Random(run);
        DeckHands x = new DeckHands();
        Model m = new Model();
        StringBuilder trail = new StringBuilder();
        String typing = "";
        for (int call = 0; call < CALLS; call++) {
            if (typing.isEmpty() && random.nextInt(m.kinds.size() == 0 ? 3 : 60) == 0) typing = drawnText(random);
            int name;
            int[] a;
            if (!typing.isEmpty() && random.nextInt(8) != 0) {
                name = typing.charAt(0) == '!' ? 3 : typing.charAt(0) == '?' ? 2 : 0;
                a = new int[] {typing.charAt(0), 0, 0, 0};
                typing = typing.substring(1);
            } else {
                // What empties or spoils the page is drawn seldom, or no routine would come about.
                do name = random.nextInt(NAMES.length); while ((name == 0 || name == 1 || name == 3) && random.nextInt(20) != 0);
                a = drawn(name, random, m);
            }
            String told = NAMES[name] + Arrays.toString(Arrays.copyOf(a, PARAMETERS[name]));
            trail.append(told).append(' ');
            long want = m.call(name, a);
            long got;
            try {
                got = ask(x, name, a);
            } catch (RuntimeException e) {
                wrong++;
                System.out.println("run " + run + ": " + told + " threw " + e);
                return;
            }
            if (want >= 0) answered[name]++;
            if (got != want) {
                wrong++;
                System.out.println("run " + run + ": " + told + " answered " + got + ", due is " + want + " behind " + trail);
                return;
            }
        }
    }

    private static String drawnText(Random r) {
        StringBuilder b = new StringBuilder();
        int cards = 2 + r.nextInt(11);
        b.append(cards / 10).append(cards % 10).append(';');
        int steps = 1 + r.nextInt(6);
        for (int i = 0; i < steps; i++) {
            if (i > 0) b.append(',');
            b.append("scdto".charAt(r.nextInt(5))).append(r.nextInt(10));
        }
        if (r.nextInt(5) == 0) b.setCharAt(r.nextInt(b.length()), "0123456789;,scdtox".charAt(r.nextInt(18)));
        if (r.nextInt(8) == 0) b.setLength(r.nextInt(b.length() + 1));
        if (r.nextInt(8) == 0) b.append(",s1");
        return b.append('?').append('!').toString();
    }

    private static int[] drawn(int name, Random r, Model m) {
        int cards = Math.max(1, m.pack.size());
        int steps = Math.max(1, m.kinds.size());
        int[] a;
        switch (NAMES[name]) {
            case "letter": a = new int[] {r.nextInt(130)}; break;
            case "step": a = new int[] {r.nextInt(steps), r.nextInt(6)}; break;
            case "as": a = new int[] {r.nextInt(steps), r.nextInt(5)}; break;
            case "goes": a = new int[] {r.nextInt(steps), r.nextInt(cards)}; break;
            case "act": a = new int[] {r.nextInt(steps)}; break;
            case "exchange": a = new int[] {r.nextInt(cards), r.nextInt(cards)}; break;
            case "change": a = new int[] {r.nextInt(steps), r.nextInt(5), r.nextInt(10)}; break;
            case "after": a = new int[] {r.nextInt(cards), r.nextInt(2) == 0 ? r.nextInt(20) : r.nextInt(1000000001)}; break;
            case "rings": a = new int[] {r.nextInt(4)}; break;
            case "bring": a = new int[] {r.nextInt(cards), r.nextInt(cards), r.nextInt(2)}; break;
            case "home": a = new int[] {r.nextInt(2)}; break;
            case "odds": a = new int[] {r.nextInt(cards), r.nextInt(cards), 1 + r.nextInt(8), r.nextInt(2)}; break;
            case "see":
                a = new int[] {r.nextInt(steps), r.nextInt(cards), r.nextInt(cards)};
                // Mostly what can be, so that numbers are left.
                if (m.kinds.size() > 0 && r.nextInt(4) != 0) a[2] = m.goes(m.kinds.get(a[0]), r.nextInt(10), a[1]);
                break;
            case "runs": a = new int[] {1 + r.nextInt(99), r.nextInt() >>> 1, r.nextInt(3)}; break;
            case "count": a = new int[] {r.nextInt(9)}; break;
            default: a = new int[] {r.nextInt(cards)}; break;
        }
        a = Arrays.copyOf(a, 4);
        if (r.nextInt(12) == 0) a[r.nextInt(Math.max(1, PARAMETERS[name]))] = EDGES[r.nextInt(EDGES.length)];
        if (r.nextInt(12) == 0) a[r.nextInt(Math.max(1, PARAMETERS[name]))] = r.nextInt(14) - 1;
        return a;
    }

    private static long ask(DeckHands x, int name, int[] a) {
        switch (NAMES[name]) {
            case "letter": return x.letter(a[0]);
            case "blank": return x.blank();
            case "fault": return x.fault();
            case "routine": return x.routine();
            case "step": return x.step(a[0], a[1]);
            case "as": return x.as(a[0], a[1]);
            case "at": return x.at(a[0]);
            case "goes": return x.goes(a[0], a[1]);
            case "act": return x.act(a[0]);
            case "whole": return x.whole();
            case "exchange": return x.exchange(a[0], a[1]);
            case "sort": return x.sort();
            case "change": return x.change(a[0], a[1], a[2]);
            case "round": return x.round(a[0]);
            case "after": return x.after(a[0], a[1]);
            case "rings": return x.rings(a[0]);
            case "bring": return x.bring(a[0], a[1], a[2]);
            case "home": return x.home(a[0]);
            case "odds": return x.odds(a[0], a[1], a[2], a[3]);
            case "see": return x.see(a[0], a[1], a[2]);
            case "forget": return x.forget();
            case "runs": return x.runs(a[0], a[1], a[2]);
            case "image": return x.image();
            case "restore": return x.restore();
            case "count": return x.count(a[0]);
            default: return x.digest();
        }
    }

    private static final class Model {
        private static final int NONE = -1, UNKNOWN = -101, OUTSIDE = -102, STATE = -103, FULL = -104;
        String page = "";
        List<Integer> pack = new ArrayList<>();
        List<Character> kinds = new ArrayList<>();
        List<Integer> numbers = new ArrayList<>();
        List<int[]> seen = new ArrayList<>();
        int done, read, homes;
        Model kept;

        long call(int name, int[] a) {
            int s = a[0];
            boolean noStep = s < 0 || s >= kinds.size();
            boolean noRoutine = kinds.isEmpty();
            switch (NAMES[name]) {
                case "letter":
                    if (s < 1 || s > 126) return OUTSIDE;
                    if (page.length() == 22) return FULL;
                    page += (char) s;
                    return page.length();
                case "blank": {
                    int before = page.length();
                    page = "";
                    return before;
                }
                case "fault": return fault();
                case "routine": return routine();
                case "step": return noStep ? UNKNOWN : a[1] < 0 || a[1] > 5 ? OUTSIDE : told(s, a[1]);
                case "as": {
                    if (noStep) return UNKNOWN;
                    if (a[1] < 0 || a[1] > 4) return OUTSIDE;
                    String is = "s" + (kinds.get(s) == 'o' ? "do" : kinds.get(s));
                    return is.indexOf("scdto".charAt(a[1])) >= 0 ? s : NONE;
                }
                case "at": return noPlace(s) ? UNKNOWN : pack.get(s);
                case "goes": return noStep || noPlace(a[1]) ? UNKNOWN : goes(kinds.get(s), numbers.get(s), a[1]);
                case "act":
                    if (noStep) return UNKNOWN;
                    pack = handled(pack, kinds.get(s), numbers.get(s));
                    done++;
                    return pack.get(0);
                case "whole":
                    if (noRoutine) return STATE;
                    pack = allHandled(pack);
                    done += kinds.size();
                    return pack.get(0);
                case "exchange":
                    if (noPlace(s) || noPlace(a[1]) || s == a[1]) return UNKNOWN;
                    Collections.swap(pack, s, a[1]);
                    return pack.get(0);
                case "sort": {
                    if (noRoutine) return STATE;
                    int before = same(pack);
                    pack = first();
                    return before;
                }
                case "change": {
                    if (noStep) return UNKNOWN;
                    if (a[1] < 0 || a[1] > 4 || a[2] < 0 || a[2] > 9) return OUTSIDE;
                    int before = "scdto".indexOf(kinds.get(s));
                    kinds.set(s, "scdto".charAt(a[1]));
                    numbers.set(s, a[2]);
                    return before;
                }
                case "round": return noPlace(s) ? UNKNOWN : allHandled(first()).indexOf(s);
                case "after": return noPlace(s) ? UNKNOWN : a[1] < 0 || a[1] > 1000000000 ? OUTSIDE : after(s, a[1]);
                case "rings": return s < 0 || s > 3 ? OUTSIDE : noRoutine ? STATE : rings(allHandled(first()), s);
                case "bring": return noPlace(s) || noPlace(a[1]) ? UNKNOWN : a[2] < 0 || a[2] > 1 ? OUTSIDE : bring(s, a[1], a[2]);
                case "home": return s < 0 || s > 1 ? OUTSIDE : noRoutine || homes == 30 ? STATE : home(s);
                case "odds":
                    if (noPlace(s) || noPlace(a[1])) return UNKNOWN;
                    if (a[2] < 1 || a[2] > 8 || a[3] < 0 || a[3] > 1) return OUTSIDE;
                    return odds(s, a[1], a[2], a[3]);
                case "see":
                    if (noStep || noPlace(a[1]) || noPlace(a[2])) return UNKNOWN;
                    if (seen.size() == 6) return FULL;
                    seen.add(new int[] {s, a[1], a[2]});
                    return seen.size();
                case "forget": {
                    int before = seen.size();
                    seen.clear();
                    return before;
                }
                case "runs":
                    if (s < 1 || s > 99 || a[1] < 0 || a[2] < 0 || a[2] > 2) return OUTSIDE;
                    return noRoutine ? STATE : runs(s, a[1], a[2]);
                case "image":
                    if (noRoutine) return STATE;
                    kept = new Model();
                    kept.take(this);
                    return done;
                case "restore":
                    if (kept == null) return STATE;
                    take(kept);
                    return done;
                case "count": return s < 0 || s > 8 ? OUTSIDE : count(s);
                default: return digest();
            }
        }

        void take(Model other) {
            pack = new ArrayList<>(other.pack);
            kinds = new ArrayList<>(other.kinds);
            numbers = new ArrayList<>(other.numbers);
            seen = new ArrayList<>(other.seen);
            done = other.done;
        }

        boolean noPlace(int p) {
            return p < 0 || p >= pack.size();
        }

        List<Integer> first() {
            List<Integer> cards = new ArrayList<>();
            for (int i = 0; i < pack.size(); i++) cards.add(i);
            return cards;
        }

        static int same(List<Integer> cards) {
            int n = 0;
            for (int i = 0; i < cards.size(); i++) if (cards.get(i) == i) n++;
            return n;
        }

        /** A beginning is right if six steps can be made of it. */
        int fault() {
            for (int i = 1; i <= page.length(); i++) {
                boolean right = false;
                for (String sample : new String[] {"02;s0,s0,s0,s0,s0,s0", "10;s0,s0,s0,s0,s0,s0"}) {
                    if (i > sample.length()) continue;
                    String text = page.substring(0, i) + sample.substring(i);
                    right |= text.matches("(0[2-9]|1[0-2]);([scdto][0-9],){5}[scdto][0-9]");
                }
                if (!right) return i - 1;
            }
            return page.length();
        }

        int routine() {
            if (!page.matches("(0[2-9]|1[0-2]);[scdto][0-9](,[scdto][0-9]){0,5}")) return STATE;
            int cards = Integer.parseInt(page.substring(0, 2));
            pack = new ArrayList<>(Collections.nCopies(cards, 0));
            pack = first();
            kinds.clear();
            numbers.clear();
            for (String step : page.substring(3).split(",")) {
                kinds.add(step.charAt(0));
                numbers.add(step.charAt(1) - '0');
            }
            seen.clear();
            done = 0;
            kept = null;
            page = "";
            read++;
            return kinds.size();
        }

        static List<Integer> handled(List<Integer> cards, char kind, int number) {
            List<Integer> left = new ArrayList<>(cards);
            int n = cards.size();
            if (kind == 's') {
                int top = left.remove(0);
                left.add(Math.min(number, n - 1), top);
            } else if (kind == 'c') {
                for (int i = 0; i < number; i++) left.add(left.remove(0));
            } else if (kind == 't') {
                Collections.reverse(left.subList(0, Math.min(number, n)));
            } else {
                List<List<Integer>> piles = new ArrayList<>();
                int count = Math.min(n, number == 0 ? 1 : number);
                for (int i = 0; i < count; i++) piles.add(new ArrayList<>());
                for (int i = 0; i < n; i++) piles.get(i % count).add(0, cards.get(i));
                if (kind == 'o') Collections.reverse(piles);
                left.clear();
                for (List<Integer> pile : piles) left.addAll(0, pile);
            }
            return left;
        }

        List<Integer> allHandled(List<Integer> cards) {
            List<Integer> left = cards;
            for (int s = 0; s < kinds.size(); s++) left = handled(left, kinds.get(s), numbers.get(s));
            return left;
        }

        int goes(char kind, int number, int place) {
            return handled(first(), kind, number).indexOf(place);
        }

        int goesBy(int step, int place) {
            return goes(kinds.get(step), numbers.get(step), place);
        }

        /** By squares: so many times the half, and once more if it is odd. */
        int after(int place, int times) {
            int[] one = new int[pack.size()];
            int[] all = new int[pack.size()];
            List<Integer> behind = allHandled(first());
            for (int p = 0; p < one.length; p++) {
                one[p] = behind.indexOf(p);
                all[p] = p;
            }
            for (int bit = 30; bit >= 0; bit--) {
                int[] twice = new int[all.length];
                for (int p = 0; p < all.length; p++) {
                    int q = all[all[p]];
                    twice[p] = (times >> bit & 1) == 1 ? one[q] : q;
                }
                all = twice;
            }
            return all[place];
        }

        static int rings(List<Integer> behind, int what) {
            int rings = 0, longest = 0, stay = 0;
            boolean[] met = new boolean[behind.size()];
            for (int p = 0; p < met.length; p++) {
                int length = 0;
                for (int q = p; !met[q]; q = behind.get(q)) {
                    met[q] = true;
                    length++;
                }
                if (length > 0) rings++;
                if (length == 1) stay++;
                longest = Math.max(longest, length);
            }
            if (what > 0) return what == 1 ? rings : what == 2 ? longest : stay;
            int order = 1;
            List<Integer> now = behind;
            while (same(now) < now.size()) {
                List<Integer> next = new ArrayList<>();
                for (int card : now) next.add(behind.get(card));
                now = next;
                order++;
            }
            return order;
        }

        int told(int s, int what) {
            char kind = kinds.get(s);
            if (what == 0) return "scdto".indexOf(kind);
            if (what == 1) return numbers.get(s);
            List<Integer> behind = handled(first(), kind, numbers.get(s));
            if (what == 2) return same(behind);
            if (what == 3) return rings(behind, 0);
            List<Integer> can = new ArrayList<>();
            for (int number = 0; number <= 9; number++) {
                boolean so = true;
                for (int[] row : seen) so &= row[0] != s || goes(kind, number, row[1]) == row[2];
                if (so) can.add(number);
            }
            if (what == 4) {
                int bits = 0;
                for (int number : can) bits += 1 << number;
                return bits;
            }
            int best = NONE, fewest = 99;
            for (int p = 0; p < pack.size() && !can.isEmpty(); p++) {
                int worst = 0;
                for (int to = 0; to < pack.size(); to++) {
                    int left = 0;
                    for (int number : can) if (goes(kind, number, p) == to) left++;
                    worst = Math.max(worst, left);
                }
                if (worst < fewest) {
                    fewest = worst;
                    best = p;
                }
            }
            return best;
        }

        int distance(int from, int to) {
            int[] far = new int[pack.size()];
            Arrays.fill(far, NONE);
            far[from] = 0;
            ArrayDeque<Integer> open = new ArrayDeque<>(List.of(from));
            while (!open.isEmpty()) {
                int p = open.remove();
                for (int s = 0; s < kinds.size(); s++) {
                    int q = goesBy(s, p);
                    if (far[q] == NONE) {
                        far[q] = far[p] + 1;
                        open.add(q);
                    }
                }
            }
            return far[to];
        }

        int bring(int card, int place, int what) {
            int from = pack.indexOf(card);
            int far = distance(from, place);
            if (what == 0 || far <= 0) return what == 0 ? far : NONE;
            for (int s = 0; s < kinds.size(); s++) if (distance(goesBy(s, from), place) == far - 1) return s;
            throw new IllegalStateException();
        }

        int home(int what) {
            homes++;
            for (int length = 0; length <= 4; length++) {
                int digits = wayHome(pack, length, 0);
                if (digits != NONE) return what == 0 ? length : digits;
            }
            return NONE;
        }

        int wayHome(List<Integer> cards, int length, int digits) {
            if (length == 0) return same(cards) == cards.size() ? digits : NONE;
            for (int s = 0; s < kinds.size(); s++) {
                int found = wayHome(handled(cards, kinds.get(s), numbers.get(s)), length - 1, 10 * digits + s + 1);
                if (found != NONE) return found;
            }
            return NONE;
        }

        int odds(int card, int place, int steps, int what) {
            int all = 1;
            for (int i = 0; i < steps; i++) all *= kinds.size();
            int above = ways(pack.indexOf(card), place, steps, new int[9][pack.size()]);
            for (int d = all; d > 1; d--) {
                if (all % d == 0 && above % d == 0) return (what == 0 ? above : all) / d;
            }
            return what == 0 ? above : all;
        }

        int ways(int from, int to, int steps, int[][] known) {
            if (steps == 0) return from == to ? 1 : 0;
            if (known[steps][from] == 0) {
                int sum = 1;
                for (int s = 0; s < kinds.size(); s++) sum += ways(goesBy(s, from), to, steps - 1, known);
                known[steps][from] = sum;
            }
            return known[steps][from] - 1;
        }

        int runs(int times, int seed, int what) {
            List<Integer> cards = pack;
            int now = seed;
            for (int i = 0; i < times; i++) {
                now = (1103515245 * now + 12345) & 0x7fffffff;
                int s = now / 65536 % kinds.size();
                cards = handled(cards, kinds.get(s), numbers.get(s));
            }
            return what == 0 ? same(cards) : what == 1 ? cards.get(0) : now;
        }

        int count(int what) {
            int twos = 0;
            for (int i = 0; i < pack.size(); i++) for (int j = 0; j < i; j++) if (pack.get(j) > pack.get(i)) twos++;
            return new int[] {pack.size(), kinds.size(), same(pack), twos, done, seen.size(), page.length(), read, homes}[what];
        }

        long digest() {
            List<Long> told = new ArrayList<>();
            for (int s = 0; s < kinds.size(); s++) for (int what = 0; what < 6; what++) told.add((long) told(s, what));
            for (int p = 0; p < pack.size(); p++) {
                told.add((long) pack.get(p));
                told.add((long) after(p, 1));
                told.add((long) after(p, 7));
            }
            if (!kinds.isEmpty()) {
                for (int what = 0; what < 4; what++) told.add((long) rings(allHandled(first()), what));
                for (int what = 0; what < 2; what++) told.add((long) bring(0, 1, what));
                for (int what = 0; what < 2; what++) told.add((long) odds(0, 1, 3, what));
            }
            for (char c : page.toCharArray()) told.add((long) c);
            for (int what = 0; what < 9; what++) told.add((long) count(what));
            long h = 1321;
            for (long number : told) h = 31 * h + number;
            return h;
        }
    }
}
