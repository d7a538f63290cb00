import java.util.Arrays;

/** A pack of cards and the hands that handle it; ../shared/DOC.md tells what each call promises. */
public final class DeckHands {
    public static final int NONE = -1, UNKNOWN = -101, OUTSIDE = -102, STATE = -103, FULL = -104;

    private static final int MOST_CARDS = 12;
    private static final int MOST_STEPS = 6;
    private static final int MOST_LETTERS = 22;
    private static final int MOST_DONE = 9999;
    private static final int MOST_SEEN = 6;
    private static final int MOST_TIMES = 1000000000;
    private static final int MOST_HOME_STEPS = 4;
    private static final int MOST_HOME_CALLS = 30;
    private static final int MOST_DRAWN_STEPS = 8;
    private static final int MOST_RUN_STEPS = 99;

    private static final int KIND_STEP = 0;
    private static final int KIND_CUT = 1;
    private static final int KIND_DEAL = 2;
    private static final int KIND_TURN = 3;
    private static final int KIND_OVER = 4;
    private static final int KIND_COUNT = 5;
    private static final int NUMBER_COUNT = 10;
    private static final String KIND_LETTERS = "scdto";

    private final Page page = new Page();
    private final Table now = new Table();
    private final Table kept = new Table();
    private boolean isKept;
    private int routinesRead;
    private int homeCalls;

    // Rows that calls write on and leave: made once, as all that a run makes is counted.
    private final Way way = new Way();
    private final int[] tally = new int[MOST_CARDS];
    private final int[] spare = new int[MOST_CARDS];
    private final int[] path = new int[MOST_HOME_STEPS];

    public DeckHands() {
    }

    // ---- the routine

    public int letter(int code) {
        if (code < 1 || code > 126) {
            return OUTSIDE;
        }
        if (page.length >= MOST_LETTERS) {
            return FULL;
        }
        page.append(code);
        return page.length;
    }

    public int blank() {
        return page.clear();
    }

    public int fault() {
        return page.firstWrong();
    }

    public int routine() {
        if (!page.isRoutine()) {
            return STATE;
        }
        page.readInto(now);
        page.clear();
        isKept = false;
        routinesRead++;
        return now.steps;
    }

    public int step(int step, int what) {
        if (!now.hasStep(step)) {
            return UNKNOWN;
        }
        switch (what) {
            case 0:
                return now.kinds[step];
            case 1:
                return now.numbers[step];
            case 2:
                return wayOfStep(step).stayCount();
            case 3:
                return wayOfStep(step).order();
            case 4:
                return now.possibleNumbers(step);
            case 5:
                return placeToWatch(now.kinds[step], now.possibleNumbers(step));
            default:
                return OUTSIDE;
        }
    }

    public int as(int step, int kind) {
        if (!now.hasStep(step)) {
            return UNKNOWN;
        }
        if (kind < 0 || kind >= KIND_COUNT) {
            return OUTSIDE;
        }
        return isOfKind(now.kinds[step], kind) ? step : NONE;
    }

    public int at(int place) {
        return now.hasPlace(place) ? now.pack[place] : UNKNOWN;
    }

    public int goes(int step, int place) {
        if (!now.hasStep(step) || !now.hasPlace(place)) {
            return UNKNOWN;
        }
        return now.placeBehind(step, place);
    }

    // ---- what is done

    public int act(int step) {
        if (!now.hasStep(step)) {
            return UNKNOWN;
        }
        if (now.done >= MOST_DONE) {
            return FULL;
        }
        return carryOut(wayOfStep(step), 1);
    }

    public int whole() {
        if (!now.hasRoutine()) {
            return STATE;
        }
        if (now.done + now.steps > MOST_DONE) {
            return FULL;
        }
        return carryOut(wayOfRoutine(), now.steps);
    }

    public int exchange(int one, int other) {
        if (!now.hasPlace(one) || !now.hasPlace(other) || one == other) {
            return UNKNOWN;
        }
        int card = now.pack[one];
        now.pack[one] = now.pack[other];
        now.pack[other] = card;
        return now.pack[0];
    }

    public int sort() {
        if (!now.hasRoutine()) {
            return STATE;
        }
        int before = now.asAtFirst();
        now.layInOrder();
        return before;
    }

    public int change(int step, int kind, int number) {
        if (!now.hasStep(step)) {
            return UNKNOWN;
        }
        if (kind < 0 || kind >= KIND_COUNT || number < 0 || number >= NUMBER_COUNT) {
            return OUTSIDE;
        }
        int before = now.kinds[step];
        now.setStep(step, kind, number);
        return before;
    }

    // ---- what would be

    public int round(int place) {
        return now.hasPlace(place) ? wayOfRoutine().to[place] : UNKNOWN;
    }

    public int after(int place, int times) {
        if (!now.hasPlace(place)) {
            return UNKNOWN;
        }
        if (times < 0 || times > MOST_TIMES) {
            return OUTSIDE;
        }
        return wayOfRoutine().placeAfter(place, times);
    }

    public int rings(int what) {
        if (what < 0 || what > 3) {
            return OUTSIDE;
        }
        if (!now.hasRoutine()) {
            return STATE;
        }
        Way all = wayOfRoutine();
        switch (what) {
            case 0:
                return all.order();
            case 1:
                return all.ringCount();
            case 2:
                return all.longestRing();
            default:
                return all.stayCount();
        }
    }

    public int bring(int card, int place, int what) {
        if (!now.hasCard(card) || !now.hasPlace(place)) {
            return UNKNOWN;
        }
        if (what < 0 || what > 1) {
            return OUTSIDE;
        }
        int from = now.placeOf(card);
        tellDistancesTo(place);
        return what == 0 ? tally[from] : firstStepNearer(from);
    }

    public int home(int what) {
        if (what < 0 || what > 1) {
            return OUTSIDE;
        }
        if (!now.hasRoutine() || homeCalls >= MOST_HOME_CALLS) {
            return STATE;
        }
        homeCalls++;
        for (int length = 0; length <= MOST_HOME_STEPS; length++) {
            if (findPathHome(length)) {
                return what == 0 ? length : pathInDigits(length);
            }
        }
        return NONE;
    }

    public int odds(int card, int place, int steps, int what) {
        if (!now.hasCard(card) || !now.hasPlace(place)) {
            return UNKNOWN;
        }
        if (steps < 1 || steps > MOST_DRAWN_STEPS || what < 0 || what > 1) {
            return OUTSIDE;
        }
        tellDrawsFrom(now.placeOf(card), steps);
        int above = tally[place];
        int below = 1;
        for (int i = 0; i < steps; i++) {
            below *= now.steps;
        }
        int part = what == 0 ? above : below;
        int divisor = greatestDivisor(below, above);
        return divisor > 0 ? part / divisor : part;
    }

    // ---- what is seen

    public int see(int step, int from, int to) {
        if (!now.hasStep(step) || !now.hasPlace(from) || !now.hasPlace(to)) {
            return UNKNOWN;
        }
        if (now.seen >= MOST_SEEN) {
            return FULL;
        }
        now.addSeen(step, from, to);
        return now.seen;
    }

    public int forget() {
        int before = now.seen;
        now.seen = 0;
        return before;
    }

    public int runs(int times, int seed, int what) {
        if (times < 1 || times > MOST_RUN_STEPS || seed < 0 || what < 0 || what > 2) {
            return OUTSIDE;
        }
        if (!now.hasRoutine()) {
            return STATE;
        }
        int last = drawSteps(times, seed);
        if (what == 0) {
            return now.asAtFirstBehind(way);
        }
        return what == 1 ? now.topBehind(way) : last;
    }

    // ---- what is told of all

    public int image() {
        if (!now.hasRoutine()) {
            return STATE;
        }
        kept.copy(now);
        isKept = true;
        return now.done;
    }

    public int restore() {
        if (!isKept) {
            return STATE;
        }
        now.copy(kept);
        return now.done;
    }

    public int count(int what) {
        switch (what) {
            case 0:
                return now.cards;
            case 1:
                return now.steps;
            case 2:
                return now.asAtFirst();
            case 3:
                return now.wrongTwos();
            case 4:
                return now.done;
            case 5:
                return now.seen;
            case 6:
                return page.length;
            case 7:
                return routinesRead;
            case 8:
                return homeCalls;
            default:
                return OUTSIDE;
        }
    }

    public long digest() {
        long h = digestOfRoutine(digestOfPlaces(digestOfSteps(1321)));
        for (int i = 0; i < page.length; i++) {
            h = joined(h, page.letters[i]);
        }
        for (int what = 0; what <= 8; what++) {
            h = joined(h, count(what));
        }
        return h;
    }

    private long digestOfSteps(long start) {
        long h = start;
        for (int s = 0; s < now.steps; s++) {
            for (int what = 0; what <= 5; what++) {
                h = joined(h, step(s, what));
            }
        }
        return h;
    }

    private long digestOfPlaces(long start) {
        long h = start;
        for (int place = 0; place < now.cards; place++) {
            h = joined(h, at(place));
            h = joined(h, round(place));
            h = joined(h, after(place, 7));
        }
        return h;
    }

    private long digestOfRoutine(long start) {
        if (!now.hasRoutine()) {
            return start;
        }
        long h = start;
        for (int what = 0; what <= 3; what++) {
            h = joined(h, rings(what));
        }
        for (int what = 0; what <= 1; what++) {
            h = joined(h, bring(0, 1, what));
        }
        for (int what = 0; what <= 1; what++) {
            h = joined(h, odds(0, 1, 3, what));
        }
        return h;
    }

    private static long joined(long h, long number) {
        return 31 * h + number;
    }

    private Way wayOfStep(int step) {
        way.begin(now.cards);
        way.add(now, step);
        return way;
    }

    private Way wayOfRoutine() {
        way.begin(now.cards);
        for (int s = 0; s < now.steps; s++) {
            way.add(now, s);
        }
        return way;
    }

    private int carryOut(Way taken, int steps) {
        for (int place = 0; place < now.cards; place++) {
            spare[taken.to[place]] = now.pack[place];
        }
        System.arraycopy(spare, 0, now.pack, 0, now.cards);
        now.done += steps;
        return now.pack[0];
    }

    private int placeToWatch(int kind, int numbers) {
        if (numbers == 0) {
            return NONE;
        }
        int best = 0;
        int fewest = NUMBER_COUNT + 1;
        for (int place = 0; place < now.cards; place++) {
            int left = leftAtWorst(kind, numbers, place);
            if (left < fewest) {
                fewest = left;
                best = place;
            }
        }
        return best;
    }

    private int leftAtWorst(int kind, int numbers, int place) {
        Arrays.fill(tally, 0);
        int most = 0;
        for (int number = 0; number < NUMBER_COUNT; number++) {
            if ((numbers >> number & 1) == 1) {
                int to = moved(kind, number, now.cards, place);
                tally[to]++;
                most = Math.max(most, tally[to]);
            }
        }
        return most;
    }

    /** The tally tells then of each place by how few steps what lies there comes to the goal. */
    private void tellDistancesTo(int goal) {
        Arrays.fill(tally, NONE);
        tally[goal] = 0;
        // The fewest steps meet no place twice, so there are fewer of them than places.
        for (int distance = 1; distance < now.cards; distance++) {
            for (int place = 0; place < now.cards; place++) {
                if (tally[place] == NONE && stepTo(place, distance - 1) != NONE) {
                    tally[place] = distance;
                }
            }
        }
    }

    /** The least step by which a place goes to one that the tally tells to be so far from the goal. */
    private int stepTo(int place, int distance) {
        for (int s = 0; s < now.steps; s++) {
            if (tally[now.placeBehind(s, place)] == distance) {
                return s;
            }
        }
        return NONE;
    }

    private int firstStepNearer(int place) {
        return tally[place] > 0 ? stepTo(place, tally[place] - 1) : NONE;
    }

    /** Whether so many steps bring all home: the path holds then the least of these by digits. */
    private boolean findPathHome(int length) {
        int paths = 1;
        for (int i = 0; i < length; i++) {
            path[i] = 0;
            paths *= now.steps;
        }
        for (int tried = 0; tried < paths; tried++) {
            if (pathLeadsHome(length)) {
                return true;
            }
            nextPath(length);
        }
        return false;
    }

    private void nextPath(int length) {
        for (int i = length - 1; i >= 0; i--) {
            path[i]++;
            if (path[i] < now.steps) {
                return;
            }
            path[i] = 0;
        }
    }

    private boolean pathLeadsHome(int length) {
        for (int place = 0; place < now.cards; place++) {
            int reached = place;
            for (int i = 0; i < length; i++) {
                reached = now.placeBehind(path[i], reached);
            }
            if (reached != now.pack[place]) {
                return false;
            }
        }
        return true;
    }

    private int pathInDigits(int length) {
        int digits = 0;
        for (int i = 0; i < length; i++) {
            digits = 10 * digits + path[i] + 1;
        }
        return digits;
    }

    /** The tally tells then of each place by how many of all sequences of steps one comes there. */
    private void tellDrawsFrom(int place, int steps) {
        Arrays.fill(tally, 0);
        tally[place] = 1;
        for (int i = 0; i < steps; i++) {
            Arrays.fill(spare, 0);
            for (int from = 0; from < now.cards; from++) {
                for (int s = 0; s < now.steps; s++) {
                    spare[now.placeBehind(s, from)] += tally[from];
                }
            }
            System.arraycopy(spare, 0, tally, 0, now.cards);
        }
    }

    /** The way is then that of the steps that are drawn; the seed that is left comes back. */
    private int drawSteps(int times, int seed) {
        long next = seed;
        way.begin(now.cards);
        for (int i = 0; i < times && now.steps > 0; i++) {
            next = (1103515245L * next + 12345L) % 2147483648L;
            way.add(now, (int) (next / 65536L % now.steps));
        }
        return (int) next;
    }

    private static boolean isOfKind(int own, int kind) {
        return kind == KIND_STEP || kind == own || kind == KIND_DEAL && own == KIND_OVER;
    }

    private static int greatestDivisor(int one, int other) {
        int greater = one;
        int lesser = other;
        // Each round makes the lesser one smaller, and two rounds at least halve it.
        for (int i = 0; i < 64 && lesser > 0; i++) {
            int rest = greater % lesser;
            greater = lesser;
            lesser = rest;
        }
        return greater;
    }

    /** At which place what lies at a place comes to lie by a step of this kind and number. */
    private static int moved(int kind, int number, int cards, int place) {
        switch (kind) {
            case KIND_CUT:
                return movedByCut(number, cards, place);
            case KIND_DEAL:
                return movedByDeal(number, cards, place, false);
            case KIND_TURN:
                return movedByTurn(Math.min(number, cards), place);
            case KIND_OVER:
                return movedByDeal(number, cards, place, true);
            default:
                return movedByStep(Math.min(number, cards - 1), place);
        }
    }

    private static int movedByStep(int depth, int place) {
        if (place == 0) {
            return depth;
        }
        return place <= depth ? place - 1 : place;
    }

    private static int movedByCut(int number, int cards, int place) {
        int cut = cards > 0 ? number % cards : 0;
        return place < cut ? place - cut + cards : place - cut;
    }

    private static int movedByTurn(int turned, int place) {
        return place < turned ? turned - 1 - place : place;
    }

    private static int movedByDeal(int number, int cards, int place, boolean firstOnTop) {
        int piles = Math.max(1, Math.min(number, cards));
        int fullRounds = cards / piles;
        int inLastRound = cards % piles;
        int pile = place % piles;
        int inPile = pile < inLastRound ? fullRounds + 1 : fullRounds;
        int inPilesBefore = pile * fullRounds + Math.min(pile, inLastRound);
        int inPilesUpon = firstOnTop ? inPilesBefore : cards - inPilesBefore - inPile;
        // A pile lies the other way about than it was dealt: its last card is its top.
        return inPilesUpon + inPile - 1 - place / piles;
    }

    /** The letters that are to be read as a routine. */
    private static final class Page {
        private static final int FIRST_STEP_AT = 3;
        private static final int STEP_WIDTH = 3;
        private static final int LONGEST_ROUTINE = FIRST_STEP_AT + MOST_STEPS * STEP_WIDTH - 1;

        private final int[] letters = new int[MOST_LETTERS];
        private int length;

        private void append(int code) {
            if (length < MOST_LETTERS) {
                letters[length] = code;
                length++;
            }
        }

        private int clear() {
            int before = length;
            length = 0;
            return before;
        }

        private int firstWrong() {
            for (int i = 0; i < length; i++) {
                if (!mayStand(i)) {
                    return i;
                }
            }
            return length;
        }

        private boolean isRoutine() {
            boolean endsBehindStep = length > FIRST_STEP_AT && partOfStep(length - 1) == 1;
            return endsBehindStep && firstWrong() == length;
        }

        /** Whether a routine has this letter there, if those ahead of it are right. */
        private boolean mayStand(int index) {
            int code = letters[index];
            if (index >= LONGEST_ROUTINE) {
                return false;
            }
            switch (index) {
                case 0:
                    return code == '0' || code == '1';
                case 1:
                    return letters[0] == '0' ? code >= '2' && code <= '9' : code >= '0' && code <= '2';
                case 2:
                    return code == ';';
                default:
                    return mayStandInStep(partOfStep(index), code);
            }
        }

        private static boolean mayStandInStep(int part, int code) {
            switch (part) {
                case 0:
                    return KIND_LETTERS.indexOf((char) code) >= 0;
                case 1:
                    return code >= '0' && code <= '9';
                default:
                    return code == ',';
            }
        }

        /** 0: the kind, 1: the number, 2: what stands between two steps. */
        private static int partOfStep(int index) {
            return (index - FIRST_STEP_AT) % STEP_WIDTH;
        }

        private void readInto(Table table) {
            int cards = 10 * (letters[0] - '0') + letters[1] - '0';
            table.begin(cards, (length + 1 - FIRST_STEP_AT) / STEP_WIDTH);
            for (int s = 0; s < table.steps; s++) {
                int start = FIRST_STEP_AT + s * STEP_WIDTH;
                int kind = KIND_LETTERS.indexOf((char) letters[start]);
                table.setStep(s, kind, letters[start + 1] - '0');
            }
        }
    }

    /** The steps of the routine, how the pack lies, what is done and seen: all that an image keeps. */
    private static final class Table {
        private int cards;
        private int steps;
        private int done;
        private int seen;
        private final int[] kinds = new int[MOST_STEPS];
        private final int[] numbers = new int[MOST_STEPS];
        // Where each place goes by each step: searches ask it too often to reckon it anew.
        private final int[] moves = new int[MOST_STEPS * MOST_CARDS];
        private final int[] pack = new int[MOST_CARDS];
        private final int[] seenSteps = new int[MOST_SEEN];
        private final int[] seenFrom = new int[MOST_SEEN];
        private final int[] seenTo = new int[MOST_SEEN];

        private void begin(int cardCount, int stepCount) {
            cards = cardCount;
            steps = stepCount;
            done = 0;
            seen = 0;
            layInOrder();
        }

        private void copy(Table other) {
            cards = other.cards;
            steps = other.steps;
            done = other.done;
            seen = other.seen;
            System.arraycopy(other.kinds, 0, kinds, 0, MOST_STEPS);
            System.arraycopy(other.numbers, 0, numbers, 0, MOST_STEPS);
            System.arraycopy(other.moves, 0, moves, 0, MOST_STEPS * MOST_CARDS);
            System.arraycopy(other.pack, 0, pack, 0, MOST_CARDS);
            System.arraycopy(other.seenSteps, 0, seenSteps, 0, MOST_SEEN);
            System.arraycopy(other.seenFrom, 0, seenFrom, 0, MOST_SEEN);
            System.arraycopy(other.seenTo, 0, seenTo, 0, MOST_SEEN);
        }

        private boolean hasRoutine() {
            return steps > 0;
        }

        private boolean hasStep(int step) {
            return step >= 0 && step < steps;
        }

        private boolean hasPlace(int place) {
            return place >= 0 && place < cards;
        }

        private boolean hasCard(int card) {
            return card >= 0 && card < cards;
        }

        private void setStep(int step, int kind, int number) {
            kinds[step] = kind;
            numbers[step] = number;
            for (int place = 0; place < cards; place++) {
                moves[step * MOST_CARDS + place] = moved(kind, number, cards, place);
            }
        }

        private int placeBehind(int step, int place) {
            return moves[step * MOST_CARDS + place];
        }

        private void layInOrder() {
            for (int place = 0; place < cards; place++) {
                pack[place] = place;
            }
        }

        private int placeOf(int card) {
            for (int place = 0; place < cards; place++) {
                if (pack[place] == card) {
                    return place;
                }
            }
            return 0;
        }

        private int asAtFirst() {
            int same = 0;
            for (int place = 0; place < cards; place++) {
                if (pack[place] == place) {
                    same++;
                }
            }
            return same;
        }

        private int asAtFirstBehind(Way taken) {
            int same = 0;
            for (int place = 0; place < cards; place++) {
                if (pack[place] == taken.to[place]) {
                    same++;
                }
            }
            return same;
        }

        private int topBehind(Way taken) {
            for (int place = 0; place < cards; place++) {
                if (taken.to[place] == 0) {
                    return pack[place];
                }
            }
            return NONE;
        }

        private int wrongTwos() {
            int twos = 0;
            for (int below = 1; below < cards; below++) {
                for (int above = 0; above < below; above++) {
                    if (pack[above] > pack[below]) {
                        twos++;
                    }
                }
            }
            return twos;
        }

        private void addSeen(int step, int from, int to) {
            if (seen < MOST_SEEN) {
                seenSteps[seen] = step;
                seenFrom[seen] = from;
                seenTo[seen] = to;
                seen++;
            }
        }

        private int possibleNumbers(int step) {
            int bits = 0;
            for (int number = 0; number < NUMBER_COUNT; number++) {
                if (agreesWithSeen(step, number)) {
                    bits |= 1 << number;
                }
            }
            return bits;
        }

        private boolean agreesWithSeen(int step, int number) {
            for (int i = 0; i < seen; i++) {
                if (seenSteps[i] == step
                        && moved(kinds[step], number, cards, seenFrom[i]) != seenTo[i]) {
                    return false;
                }
            }
            return true;
        }
    }

    /** Where each place goes by steps that are put one behind the other. */
    private static final class Way {
        private int places;
        private final int[] to = new int[MOST_CARDS];

        private void begin(int placeCount) {
            places = placeCount;
            for (int place = 0; place < places; place++) {
                to[place] = place;
            }
        }

        private void add(Table table, int step) {
            for (int place = 0; place < places; place++) {
                to[place] = table.placeBehind(step, to[place]);
            }
        }

        private int stayCount() {
            int stay = 0;
            for (int place = 0; place < places; place++) {
                if (to[place] == place) {
                    stay++;
                }
            }
            return stay;
        }

        private int ringLength(int place) {
            int length = 1;
            int reached = to[place];
            // No ring is longer than there are places.
            while (reached != place && length < places) {
                reached = to[reached];
                length++;
            }
            return length;
        }

        private int placeAfter(int place, int times) {
            int rest = times % Math.max(1, ringLength(place));
            int reached = place;
            for (int i = 0; i < rest; i++) {
                reached = to[reached];
            }
            return reached;
        }

        private int order() {
            int order = 1;
            for (int place = 0; place < places; place++) {
                int length = ringLength(place);
                order = order / Math.max(1, greatestDivisor(order, length)) * length;
            }
            return order;
        }

        private int ringCount() {
            int rings = 0;
            for (int place = 0; place < places; place++) {
                if (isLeastOfRing(place)) {
                    rings++;
                }
            }
            return rings;
        }

        private boolean isLeastOfRing(int place) {
            int reached = to[place];
            for (int i = 0; i < places && reached > place; i++) {
                reached = to[reached];
            }
            return reached == place;
        }

        private int longestRing() {
            int longest = 0;
            for (int place = 0; place < places; place++) {
                longest = Math.max(longest, ringLength(place));
            }
            return longest;
        }
    }
}
