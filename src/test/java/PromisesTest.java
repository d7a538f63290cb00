/** For each promise of the document: ordinary inputs, the edges it names, and wrong inputs. */
public final class PromisesTest {
    private static final int NONE = -1, UNKNOWN = -101, OUTSIDE = -102, STATE = -103, FULL = -104;
    private static final int LOW = Integer.MIN_VALUE, HIGH = Integer.MAX_VALUE;
    private static int wrong = 0;
    private static int asked = 0;

    public static void main(String[] args) {
        newObject();
        letter();
        blank();
        fault();
        routine();
        stepTold();
        stepSeen();
        as();
        at();
        goes();
        kindsByHand();
        act();
        whole();
        exchange();
        sort();
        change();
        round();
        after();
        rings();
        bring();
        home();
        homeLimit();
        odds();
        see();
        forget();
        runs();
        image();
        restore();
        count();
        digest();
        refusalsChangeNothing();
        System.out.println(asked + " answers asked, " + wrong + " wrong");
        if (wrong != 0) System.exit(1);
    }

    private static void due(int promise, String call, long got, long want) {
        asked++;
        if (got != want) {
            wrong++;
            System.out.println("promise " + promise + ": " + call + " answered " + got + ", due is " + want);
        }
    }

    private static void due(int promise, String call, String got, String want) {
        asked++;
        if (!got.equals(want)) {
            wrong++;
            System.out.println("promise " + promise + ": " + call + " lies " + got + ", due is " + want);
        }
    }

    private static DeckHands typed(String text) {
        DeckHands x = new DeckHands();
        type(x, text);
        return x;
    }

    private static void type(DeckHands x, String text) {
        for (int i = 0; i < text.length(); i++) x.letter(text.charAt(i));
    }

    private static DeckHands read(String text) {
        DeckHands x = typed(text);
        int steps = x.routine();
        due(5, "routine() of " + text, steps, (text.length() - 2) / 3);
        return x;
    }

    /** The cards from the top down, one sign each ("a" is 10, "b" is 11). */
    private static String lies(DeckHands x) {
        StringBuilder b = new StringBuilder();
        for (int p = 0; p < x.count(0); p++) b.append(Integer.toString(x.at(p), 36));
        return b.toString();
    }

    private static String behind(String text) {
        DeckHands x = read(text);
        x.whole();
        return lies(x);
    }

    private static void newObject() {
        DeckHands x = new DeckHands();
        for (int what = 0; what <= 8; what++) due(1, "count(" + what + ")", x.count(what), 0);
        due(1, "fault()", x.fault(), 0);
        due(1, "blank()", x.blank(), 0);
        due(1, "forget()", x.forget(), 0);
        due(1, "routine()", x.routine(), STATE);
        due(1, "step(0, 0)", x.step(0, 0), UNKNOWN);
        due(1, "as(0, 0)", x.as(0, 0), UNKNOWN);
        due(1, "at(0)", x.at(0), UNKNOWN);
        due(1, "goes(0, 0)", x.goes(0, 0), UNKNOWN);
        due(1, "act(0)", x.act(0), UNKNOWN);
        due(1, "whole()", x.whole(), STATE);
        due(1, "exchange(0, 1)", x.exchange(0, 1), UNKNOWN);
        due(1, "sort()", x.sort(), STATE);
        due(1, "change(0, 0, 0)", x.change(0, 0, 0), UNKNOWN);
        due(1, "round(0)", x.round(0), UNKNOWN);
        due(1, "after(0, 0)", x.after(0, 0), UNKNOWN);
        due(1, "rings(0)", x.rings(0), STATE);
        due(1, "bring(0, 0, 0)", x.bring(0, 0, 0), UNKNOWN);
        due(1, "home(0)", x.home(0), STATE);
        due(1, "odds(0, 0, 1, 0)", x.odds(0, 0, 1, 0), UNKNOWN);
        due(1, "see(0, 0, 0)", x.see(0, 0, 0), UNKNOWN);
        due(1, "runs(1, 0, 0)", x.runs(1, 0, 0), STATE);
        due(1, "image()", x.image(), STATE);
        due(1, "restore()", x.restore(), STATE);
        long h = 1321;
        for (int i = 0; i < 9; i++) h = 31 * h;
        due(1, "digest()", x.digest(), h);
    }

    private static void letter() {
        DeckHands x = new DeckHands();
        for (int code : new int[] {0, -1, 127, LOW, HIGH}) due(2, "letter(" + code + ")", x.letter(code), OUTSIDE);
        for (int i = 1; i <= 22; i++) due(2, "letter " + i, x.letter(i % 2 == 0 ? 1 : 126), i);
        due(2, "letter 23", x.letter(65), FULL);
        due(2, "letter(0) when full", x.letter(0), OUTSIDE);
        due(2, "count(6)", x.count(6), 22);
    }

    private static void blank() {
        DeckHands x = typed("05;");
        due(3, "blank()", x.blank(), 3);
        due(3, "blank() again", x.blank(), 0);
        due(3, "count(6)", x.count(6), 0);
        type(x, "02;s1");
        due(3, "routine() behind blank()", x.routine(), 1);
    }

    private static void fault() {
        String[] texts = {
            "", "0", "1", "2", ";", "00", "01", "02", "09", "0:", "10", "11", "12", "13", "1/", "19",
            "05;", "05,", "05;s", "05;x", "05;S", "05;5", "05;s0", "05;s9", "05;s/", "05;s:", "05;ss",
            "05;s1,", "05;s1;", "05;s12", "05;s1,,", "05;s1,c2", "05;s1,c2,d3,t4,o5,s6",
            "05;s1,c2,d3,t4,o5,s6,", "05;s1,c2,d3,t4,o5,s6s", "05;s1,c2,d3,t4,o5,s6,s", "x5;s1", "05;s1,c2,d3,t4,q5,"
        };
        int[] places = {
            0, 1, 1, 0, 0, 1, 1, 2, 2, 1, 2, 2, 2, 1, 1, 1,
            3, 2, 4, 3, 3, 3, 5, 5, 4, 4, 4,
            6, 5, 5, 6, 8, 20,
            20, 20, 20, 0, 15
        };
        for (int i = 0; i < texts.length; i++) due(4, "fault() of " + texts[i], typed(texts[i]).fault(), places[i]);
    }

    private static void routine() {
        for (String text : new String[] {"", "0", "05", "05;", "05;s", "05;s1,", "05;s1,c", "01;s1", "13;s1", "5;s1",
            "05;s1,c2,d3,t4,o5,s6,", "05;s1 ", "05;s1,c2,d3,t4,o5,s6,s1", "05:s1"}) {
            DeckHands x = typed(text);
            due(5, "routine() of " + text, x.routine(), STATE);
            due(5, "letters behind it", x.count(6), Math.min(22, text.length()));
            due(5, "count(7)", x.count(7), 0);
        }
        DeckHands x = read("07;s1,c2,d3,t4,o5,s6");
        for (int s = 0; s < 6; s++) {
            due(5, "kind of " + s, x.step(s, 0), s == 5 ? 0 : s);
            due(5, "number of " + s, x.step(s, 1), s + 1);
        }
        due(5, "letters", x.count(6), 0);
        due(5, "cards", x.count(0), 7);
        x.act(1);
        x.see(1, 0, 0);
        x.image();
        x.home(0);
        type(x, "03;d2");
        due(5, "another routine", x.routine(), 1);
        due(5, "how it lies", lies(x), "012");
        due(5, "steps", x.count(1), 1);
        due(5, "done", x.count(4), 0);
        due(5, "seen", x.count(5), 0);
        due(5, "read", x.count(7), 2);
        due(5, "homes", x.count(8), 1);
        due(5, "restore()", x.restore(), STATE);
        due(5, "step 1", x.step(1, 0), UNKNOWN);
        due(5, "place 3", x.at(3), UNKNOWN);
        due(5, "kind", x.step(0, 0), 2);
    }

    private static void stepTold() {
        DeckHands x = read("08;s3,c6,d3,t5,o2");
        int[][] told = {{0, 3, 4, 4}, {1, 6, 0, 4}, {2, 3}, {3, 5, 4, 2}, {4, 2}};
        for (int s = 0; s < told.length; s++) {
            for (int what = 0; what < told[s].length; what++) {
                due(6, "step(" + s + ", " + what + ")", x.step(s, what), told[s][what]);
            }
        }
        due(6, "d3 lies", behind("08;d3"), "52741630");
        due(6, "d3 stays", x.step(2, 2), 0);
        // 0>7>2>1>4>3>6>5>0
        due(6, "d3 order", x.step(2, 3), 8);
        due(6, "o2 lies", behind("08;o2"), "64207531");
        // 0>3>6>0, 1>7>4>1; 2 and 5 stay
        due(6, "o2 stays", x.step(4, 2), 2);
        due(6, "o2 order", x.step(4, 3), 3);
        due(6, "order of an empty step", read("08;s0").step(0, 3), 1);
        due(6, "stays of an empty step", read("08;c8").step(0, 2), 8);
        due(6, "step(5, 0)", x.step(5, 0), UNKNOWN);
        due(6, "step(-1, 9)", x.step(-1, 9), UNKNOWN);
        due(6, "step(HIGH, 0)", x.step(HIGH, 0), UNKNOWN);
        due(6, "step(0, 6)", x.step(0, 6), OUTSIDE);
        due(6, "step(0, -1)", x.step(0, -1), OUTSIDE);
        due(6, "step(4, LOW)", x.step(4, LOW), OUTSIDE);
    }

    private static void stepSeen() {
        DeckHands x = read("12;s4,c3");
        due(6, "all numbers", x.step(0, 4), 1023);
        due(6, "the top tells every plain step", x.step(0, 5), 0);
        x.see(0, 5, 5);
        due(6, "5 stays: less than 5", x.step(0, 4), 31);
        due(6, "of another step all", x.step(1, 4), 1023);
        x.see(0, 2, 1);
        due(6, "and 2 goes up: 2, 3, 4", x.step(0, 4), 28);
        due(6, "watch", x.step(0, 5), 0);
        x.see(0, 0, 9);
        due(6, "what can't be", x.step(0, 4), 0);
        due(6, "nothing to watch", x.step(0, 5), NONE);
        // As a turn: 5 stays and 2 goes to 1 by t4 alone, which does not bring 0 to 9.
        x.change(0, 3, 4);
        due(6, "as it is now", x.step(0, 4), 0);
        x.forget();
        x.see(0, 2, 1);
        due(6, "t4", x.step(0, 4), 16);
        due(6, "one number: all alike", x.step(0, 5), 0);
        // All from t3 on turn all three cards, so each place leaves these 7 at worst: the least one.
        due(6, "a few cards", read("03;t1").step(0, 5), 0);
        // By a deal of 5 cards place 0 comes to 4 whatever the number is; 1 comes to 3 by 7 numbers, else to 1 or 2.
        due(6, "deal", read("05;d0").step(0, 5), 1);
    }

    private static void as() {
        DeckHands x = read("06;s1,c2,d3,t4,o5");
        int[][] is = {
            {0, NONE, NONE, NONE, NONE},
            {1, 1, NONE, NONE, NONE},
            {2, NONE, 2, NONE, NONE},
            {3, NONE, NONE, 3, NONE},
            {4, NONE, 4, NONE, 4}
        };
        for (int s = 0; s < 5; s++) {
            for (int k = 0; k < 5; k++) due(7, "as(" + s + ", " + k + ")", x.as(s, k), is[s][k]);
        }
        due(7, "as(5, 0)", x.as(5, 0), UNKNOWN);
        due(7, "as(-1, 9)", x.as(-1, 9), UNKNOWN);
        due(7, "as(0, 5)", x.as(0, 5), OUTSIDE);
        due(7, "as(0, -1)", x.as(0, -1), OUTSIDE);
        due(7, "as(4, HIGH)", x.as(4, HIGH), OUTSIDE);
    }

    private static void at() {
        DeckHands x = read("12;c5");
        for (int p = 0; p < 12; p++) due(8, "at(" + p + ")", x.at(p), p);
        x.act(0);
        for (int p = 0; p < 12; p++) due(8, "at(" + p + ") behind c5", x.at(p), (p + 5) % 12);
        for (int p : new int[] {-1, 12, LOW, HIGH}) due(8, "at(" + p + ")", x.at(p), UNKNOWN);
    }

    private static void goes() {
        DeckHands x = read("05;s2,c2,d2,t3,o2");
        int[][] to = {{2, 0, 1, 3, 4}, {3, 4, 0, 1, 2}, {4, 1, 3, 0, 2}, {2, 1, 0, 3, 4}, {2, 4, 1, 3, 0}};
        x.exchange(0, 4);
        for (int s = 0; s < 5; s++) {
            for (int p = 0; p < 5; p++) due(9, "goes(" + s + ", " + p + ")", x.goes(s, p), to[s][p]);
        }
        due(9, "no farther than the last", read("05;s9").goes(0, 0), 4);
        due(9, "no farther than the last", read("05;s9").goes(0, 4), 3);
        due(9, "goes(5, 0)", x.goes(5, 0), UNKNOWN);
        due(9, "goes(-1, 0)", x.goes(-1, 0), UNKNOWN);
        due(9, "goes(0, 5)", x.goes(0, 5), UNKNOWN);
        due(9, "goes(0, -1)", x.goes(0, -1), UNKNOWN);
        due(9, "goes(LOW, HIGH)", x.goes(LOW, HIGH), UNKNOWN);
    }

    private static void kindsByHand() {
        String[] rows = {
            "05;s0", "01234", "05;s1", "10234", "05;s2", "12034", "05;s4", "12340", "05;s5", "12340", "05;s9", "12340",
            "12;s9", "1234567890ab",
            "05;c0", "01234", "05;c2", "23401", "05;c5", "01234", "05;c7", "23401", "12;c9", "9ab012345678",
            "05;d0", "43210", "05;d1", "43210", "05;d2", "31420", "05;d3", "24130", "05;d5", "43210", "05;d9", "43210",
            "05;o0", "43210", "05;o1", "43210", "05;o2", "42031", "05;o3", "30412", "05;o5", "01234", "05;o9", "01234",
            "05;t0", "01234", "05;t1", "01234", "05;t2", "10234", "05;t3", "21034", "05;t5", "43210", "05;t9", "43210",
            "12;t9", "8765432109ab", "02;s1", "10", "02;c1", "10", "02;d2", "10", "02;o2", "01", "02;t2", "10",
            "02;c3", "10", "10;d4", "73" + "62" + "951" + "840", "10;o4", "840" + "951" + "62" + "73",
            "05;s2,c1", "20341", "05;c1,s2", "23140"
        };
        for (int i = 0; i < rows.length; i += 2) due(10, rows[i], behind(rows[i]), rows[i + 1]);
    }

    private static void act() {
        DeckHands x = read("05;s2,c2");
        due(10, "act(0)", x.act(0), 1);
        due(10, "lies", lies(x), "12034");
        due(10, "act(1)", x.act(1), 0);
        due(10, "lies", lies(x), "03412");
        due(10, "act(0)", x.act(0), 3);
        due(10, "lies", lies(x), "34012");
        due(10, "done", x.count(4), 3);
        due(10, "act(2)", x.act(2), UNKNOWN);
        due(10, "act(-1)", x.act(-1), UNKNOWN);
        due(10, "act(LOW)", x.act(LOW), UNKNOWN);
        due(10, "done", x.count(4), 3);
    }

    private static void whole() {
        DeckHands x = read("05;s2,c1,s2");
        due(11, "whole()", x.whole(), 0);
        due(11, "lies", lies(x), "03241");
        due(11, "done", x.count(4), 3);
        due(11, "whole()", x.whole(), 0);
        due(11, "lies", lies(x), "04213");
        due(11, "done", x.count(4), 6);
        fullOfDone();
    }

    /** More calls than are promised, but the document tells how it ends. */
    private static void fullOfDone() {
        DeckHands x = read("02;s1,s1,s1,s1,s1,s1");
        for (int i = 0; i < 1666; i++) x.whole();
        due(11, "done", x.count(4), 9996);
        due(11, "whole() above 9999", x.whole(), FULL);
        due(10, "act(0)", x.act(0), 1);
        due(10, "act(0)", x.act(0), 0);
        due(10, "act(0)", x.act(0), 1);
        due(10, "act(0) above 9999", x.act(0), FULL);
        due(10, "act(6) above 9999", x.act(6), UNKNOWN);
        due(10, "done", x.count(4), 9999);
        due(10, "lies", lies(x), "10");
        DeckHands y = read("02;s1,s1,s1");
        for (int i = 0; i < 3332; i++) y.whole();
        due(11, "whole() up to 9999", y.whole(), 1);
        due(11, "whole() above 9999", y.whole(), FULL);
        due(11, "done", y.count(4), 9999);
    }

    private static void exchange() {
        DeckHands x = read("05;s2");
        due(12, "exchange(1, 3)", x.exchange(1, 3), 0);
        due(12, "lies", lies(x), "03214");
        due(12, "exchange(4, 0)", x.exchange(4, 0), 4);
        due(12, "lies", lies(x), "43210");
        due(12, "done", x.count(4), 0);
        int[][] bad = {{0, 0}, {4, 4}, {0, 5}, {5, 0}, {-1, 0}, {0, -1}, {7, 7}, {LOW, HIGH}};
        for (int[] b : bad) due(12, "exchange(" + b[0] + ", " + b[1] + ")", x.exchange(b[0], b[1]), UNKNOWN);
        due(12, "lies", lies(x), "43210");
    }

    private static void sort() {
        DeckHands x = read("05;t3,c1");
        due(13, "sort() at first", x.sort(), 5);
        x.act(0);
        due(13, "sort()", x.sort(), 3);
        due(13, "lies", lies(x), "01234");
        due(13, "done stays", x.count(4), 1);
        x.act(1);
        due(13, "sort()", x.sort(), 0);
    }

    private static void change() {
        DeckHands x = read("05;s2,c1");
        due(14, "change(0, 3, 5)", x.change(0, 3, 5), 0);
        due(14, "kind", x.step(0, 0), 3);
        due(14, "number", x.step(0, 1), 5);
        due(14, "goes", x.goes(0, 0), 4);
        due(14, "round", x.round(0), 3);
        due(14, "change(0, 4, 9)", x.change(0, 4, 9), 3);
        due(14, "goes", x.goes(0, 0), 0);
        due(14, "change(1, 0, 0)", x.change(1, 0, 0), 1);
        due(14, "change(0, 4, 0)", x.change(0, 4, 0), 4);
        due(14, "change(2, 0, 0)", x.change(2, 0, 0), UNKNOWN);
        due(14, "change(-1, 9, 99)", x.change(-1, 9, 99), UNKNOWN);
        due(14, "change(0, 5, 0)", x.change(0, 5, 0), OUTSIDE);
        due(14, "change(0, -1, 0)", x.change(0, -1, 0), OUTSIDE);
        due(14, "change(0, 0, 10)", x.change(0, 0, 10), OUTSIDE);
        due(14, "change(0, 0, -1)", x.change(0, 0, -1), OUTSIDE);
        due(14, "kind stays", x.step(0, 0), 4);
        due(14, "number stays", x.step(0, 1), 0);
        due(14, "nothing lies otherwise", lies(x), "01234");
    }

    private static void round() {
        DeckHands x = read("05;s2,c1");
        int[] to = {1, 4, 0, 2, 3};
        x.exchange(0, 3);
        for (int p = 0; p < 5; p++) due(15, "round(" + p + ")", x.round(p), to[p]);
        for (int p : new int[] {-1, 5, LOW, HIGH}) due(15, "round(" + p + ")", x.round(p), UNKNOWN);
    }

    private static void after() {
        DeckHands x = read("12;c1,s6");
        int[] at = new int[12];
        for (int p = 0; p < 12; p++) at[p] = p;
        for (int times = 0; times <= 40; times++) {
            for (int p = 0; p < 12; p++) {
                due(16, "after(" + p + ", " + times + ")", x.after(p, times), at[p]);
                at[p] = x.round(at[p]);
            }
        }
        DeckHands y = read("07;c1");
        due(16, "after a thousand million", y.after(0, 1000000000), (7 - 1000000000 % 7) % 7);
        due(16, "after(6, 999999999)", y.after(6, 999999999), (6 + 7 - 999999999 % 7) % 7);
        due(16, "after(0, 1000000001)", y.after(0, 1000000001), OUTSIDE);
        due(16, "after(0, -1)", y.after(0, -1), OUTSIDE);
        due(16, "after(0, LOW)", y.after(0, LOW), OUTSIDE);
        due(16, "after(7, -1)", y.after(7, -1), UNKNOWN);
        due(16, "after(-1, 0)", y.after(-1, 0), UNKNOWN);
    }

    private static void rings() {
        ringsAre("12;s4", 5, 8, 5, 7);
        ringsAre("05;t5", 2, 3, 2, 1);
        ringsAre("12;c1", 12, 1, 12, 0);
        ringsAre("12;c8", 3, 4, 3, 0);
        ringsAre("05;s0", 1, 5, 1, 5);
        ringsAre("02;t2", 2, 1, 2, 0);
        // t5 exchanges 0 and 4, 1 and 3; c5,s2,c7 turns the places 5, 6, 7 round: 2 times 3.
        ringsAre("12;t5,c5,s2,c7", 6, 8, 3, 5);
        DeckHands x = read("05;s2");
        for (int what : new int[] {-1, 4, LOW, HIGH}) due(17, "rings(" + what + ")", x.rings(what), OUTSIDE);
        due(17, "rings(4) without a routine", new DeckHands().rings(4), OUTSIDE);
    }

    private static void ringsAre(String text, int... want) {
        DeckHands x = read(text);
        for (int what = 0; what < 4; what++) due(17, text + " rings(" + what + ")", x.rings(what), want[what]);
    }

    private static void bring() {
        DeckHands x = read("07;c1,c3,s0");
        due(18, "it is there", x.bring(4, 4, 0), 0);
        due(18, "none is first", x.bring(4, 4, 1), NONE);
        // 6 to 0 is six up: twice three.
        due(18, "6 to 0", x.bring(6, 0, 0), 2);
        due(18, "6 to 0 first", x.bring(6, 0, 1), 1);
        // 4 to 0: one and three, in either order.
        due(18, "4 to 0", x.bring(4, 0, 0), 2);
        due(18, "4 to 0 first", x.bring(4, 0, 1), 0);
        due(18, "0 to 6", x.bring(0, 6, 1), 0);
        x.act(1);
        due(18, "from where it lies", x.bring(4, 0, 0), 1);
        due(18, "from where it lies", x.bring(4, 0, 1), 0);
        DeckHands y = read("07;s2,t3");
        due(18, "never", y.bring(0, 3, 0), NONE);
        due(18, "never", y.bring(0, 3, 1), NONE);
        due(18, "never", y.bring(5, 2, 0), NONE);
        due(18, "long", read("12;c1").bring(0, 1, 0), 11);
        due(18, "like ones", read("05;s0,t5,d1").bring(0, 4, 1), 1);
        due(18, "bring(7, 0, 0)", y.bring(7, 0, 0), UNKNOWN);
        due(18, "bring(0, 7, 0)", y.bring(0, 7, 0), UNKNOWN);
        due(18, "bring(-1, 0, 9)", y.bring(-1, 0, 9), UNKNOWN);
        due(18, "bring(0, -1, 9)", y.bring(0, -1, 9), UNKNOWN);
        due(18, "bring(0, 0, 2)", y.bring(0, 0, 2), OUTSIDE);
        due(18, "bring(0, 0, -1)", y.bring(0, 0, -1), OUTSIDE);
    }

    private static void home() {
        DeckHands x = read("07;c1,c2,s0");
        homeIs(x, 0, 0);
        x.exchange(0, 1);
        homeIs(x, NONE, NONE);
        x.exchange(0, 1);
        x.act(0);
        // c1 was done: six more are wanted, three times c2.
        homeIs(x, 3, 222);
        x.act(1);
        // Four more: c2 twice.
        homeIs(x, 2, 22);
        x.act(0);
        // Three more: c1 then c2 is less than c2 then c1.
        homeIs(x, 2, 12);
        x.act(1);
        homeIs(x, 1, 1);
        DeckHands y = read("09;c1,c3");
        y.act(0);
        // Eight: 3 + 3 + 1 + 1, the ones first.
        homeIs(y, 4, 1122);
        DeckHands z = read("09;c1");
        for (int i = 0; i < 4; i++) z.act(0);
        homeIs(z, NONE, NONE);
        z.act(0);
        homeIs(z, 4, 1111);
        DeckHands other = read("05;s2,t3");
        other.exchange(0, 1);
        // 102: turned about 201, then 012.
        homeIs(other, 2, 21);
        other.sort();
        other.exchange(1, 2);
        // 021: by s2 210, turned about 012.
        homeIs(other, 2, 12);
        DeckHands six = read("06;s0,s0,s0,s0,s0,t4");
        six.act(5);
        homeIs(six, 1, 6);
        due(19, "count(8)", six.count(8), 2);
        for (int what : new int[] {-1, 2, LOW, HIGH}) due(19, "home(" + what + ")", six.home(what), OUTSIDE);
        due(19, "count(8)", six.count(8), 2);
        due(19, "home(2) without a routine", new DeckHands().home(2), OUTSIDE);
    }

    private static void homeIs(DeckHands x, int steps, int which) {
        due(19, "home(0)", x.home(0), steps);
        due(19, "home(1)", x.home(1), which);
    }

    private static void homeLimit() {
        DeckHands x = read("02;s1");
        for (int i = 0; i < 30; i++) due(19, "home " + i, x.home(0), 0);
        due(19, "home(0) once more", x.home(0), STATE);
        due(19, "home(1) once more", x.home(1), STATE);
        due(19, "home(2) once more", x.home(2), OUTSIDE);
        due(19, "count(8)", x.count(8), 30);
        x.image();
        x.restore();
        due(19, "behind restore()", x.home(0), STATE);
        type(x, "03;s1");
        x.routine();
        due(19, "behind another routine", x.home(0), STATE);
    }

    private static void odds() {
        DeckHands x = read("05;s1,s2,t1");
        oddsAre(x, 0, 0, 1, 1, 3);
        oddsAre(x, 0, 1, 1, 1, 3);
        oddsAre(x, 0, 4, 1, 0, 1);
        oddsAre(x, 4, 4, 8, 1, 1);
        // 0 at 0 by two: s1 s1, t1 t1, s2 none; and s1 then s2 brings it from 1 to 0: 3 of 9.
        oddsAre(x, 0, 0, 2, 1, 3);
        x.exchange(0, 4);
        oddsAre(x, 4, 1, 1, 1, 3);
        oddsAre(x, 0, 4, 3, 1, 1);
        DeckHands y = read("12;s0,s0,s0,s0,s0,s1");
        // By eight steps an odd number of s1 of sixths: (1 - (4/6)^8) / 2 = (6561 - 256) / 13122.
        oddsAre(y, 0, 1, 8, 6305, 13122);
        due(20, "odds(5, 0, 1, 0)", x.odds(5, 0, 1, 0), UNKNOWN);
        due(20, "odds(0, 5, 1, 0)", x.odds(0, 5, 1, 0), UNKNOWN);
        due(20, "odds(-1, 0, 0, 9)", x.odds(-1, 0, 0, 9), UNKNOWN);
        due(20, "odds(0, -1, 0, 9)", x.odds(0, -1, 0, 9), UNKNOWN);
        due(20, "odds(0, 0, 0, 0)", x.odds(0, 0, 0, 0), OUTSIDE);
        due(20, "odds(0, 0, 9, 0)", x.odds(0, 0, 9, 0), OUTSIDE);
        due(20, "odds(0, 0, LOW, 0)", x.odds(0, 0, LOW, 0), OUTSIDE);
        due(20, "odds(0, 0, 1, 2)", x.odds(0, 0, 1, 2), OUTSIDE);
        due(20, "odds(0, 0, 1, -1)", x.odds(0, 0, 1, -1), OUTSIDE);
    }

    private static void oddsAre(DeckHands x, int card, int place, int steps, int above, int below) {
        String call = "odds(" + card + ", " + place + ", " + steps + ")";
        due(20, call, x.odds(card, place, steps, 0), above);
        due(20, call, x.odds(card, place, steps, 1), below);
    }

    private static void see() {
        DeckHands x = read("05;s2,c1");
        due(21, "see(0, 0, 0)", x.see(0, 0, 0), 1);
        due(21, "see(0, 0, 0)", x.see(0, 0, 0), 2);
        due(21, "numbers", x.step(0, 4), 1);
        due(21, "see(1, 4, 0)", x.see(1, 4, 0), 3);
        due(21, "numbers", x.step(1, 4), 1 << 4 | 1 << 9);
        for (int i = 4; i <= 6; i++) due(21, "see", x.see(1, 4, 0), i);
        due(21, "see a seventh", x.see(1, 4, 0), FULL);
        due(21, "see(2, 0, 0)", x.see(2, 0, 0), UNKNOWN);
        due(21, "see(-1, 0, 0)", x.see(-1, 0, 0), UNKNOWN);
        due(21, "see(0, 5, 0)", x.see(0, 5, 0), UNKNOWN);
        due(21, "see(0, -1, 0)", x.see(0, -1, 0), UNKNOWN);
        due(21, "see(0, 0, 5)", x.see(0, 0, 5), UNKNOWN);
        due(21, "see(0, 0, -1)", x.see(0, 0, -1), UNKNOWN);
        due(21, "count(5)", x.count(5), 6);
        x.change(1, 3, 0);
        // As a turn 4 comes to 0 if all five are turned.
        due(21, "seen of what it is now", x.step(1, 4), 0x3e0);
    }

    private static void forget() {
        DeckHands x = read("05;s2,c1");
        x.see(0, 0, 0);
        x.see(1, 0, 0);
        due(22, "forget()", x.forget(), 2);
        due(22, "forget()", x.forget(), 0);
        due(22, "count(5)", x.count(5), 0);
        due(22, "numbers", x.step(0, 4), 1023);
        due(22, "see", x.see(0, 0, 1), 1);
        due(22, "numbers", x.step(0, 4), 2);
    }

    private static void runs() {
        DeckHands x = read("05;s2,c1,t3");
        x.exchange(0, 3);
        String before = lies(x);
        for (int times : new int[] {1, 2, 3, 50, 99}) {
            for (int seed : new int[] {0, 1, 961, 65536, HIGH}) runAsDone(x, times, seed);
        }
        due(23, "as they would be", lies(x), before);
        due(23, "done", x.count(4), 0);
        due(23, "runs(0, 0, 0)", x.runs(0, 0, 0), OUTSIDE);
        due(23, "runs(100, 0, 0)", x.runs(100, 0, 0), OUTSIDE);
        due(23, "runs(LOW, 0, 0)", x.runs(LOW, 0, 0), OUTSIDE);
        due(23, "runs(1, -1, 0)", x.runs(1, -1, 0), OUTSIDE);
        due(23, "runs(1, 0, 3)", x.runs(1, 0, 3), OUTSIDE);
        due(23, "runs(1, 0, -1)", x.runs(1, 0, -1), OUTSIDE);
        due(23, "runs(0, 0, 0) without a routine", new DeckHands().runs(0, 0, 0), OUTSIDE);
    }

    private static void runAsDone(DeckHands x, int times, int seed) {
        x.image();
        long s = seed;
        for (int i = 0; i < times; i++) {
            s = (1103515245L * s + 12345L) & 0x7fffffffL;
            x.act((int) ((s >> 16) % 3));
        }
        int same = x.count(2);
        int top = x.at(0);
        x.restore();
        String call = "runs(" + times + ", " + seed + ")";
        due(23, call, x.runs(times, seed, 0), same);
        due(23, call, x.runs(times, seed, 1), top);
        due(23, call, x.runs(times, seed, 2), s);
    }

    private static void image() {
        DeckHands x = read("05;s2,c1");
        due(24, "image()", x.image(), 0);
        x.whole();
        due(24, "image() the latest", x.image(), 2);
        String kept = lies(x);
        x.act(0);
        due(24, "restore()", x.restore(), 2);
        due(24, "lies", lies(x), kept);
    }

    private static void restore() {
        DeckHands x = read("05;s2,c1");
        due(25, "restore() of none", x.restore(), STATE);
        x.see(0, 0, 2);
        x.act(0);
        x.image();
        long before = x.digest();
        for (int again = 0; again < 2; again++) {
            x.change(0, 4, 3);
            x.change(1, 2, 3);
            x.whole();
            x.exchange(1, 2);
            x.forget();
            x.see(1, 1, 1);
            x.see(1, 1, 1);
            due(25, "restore()", x.restore(), 1);
            due(25, "digest()", x.digest(), before);
            due(25, "kind", x.step(0, 0), 0);
            due(25, "number", x.step(1, 1), 1);
            due(25, "goes", x.goes(0, 0), 2);
            due(25, "lies", lies(x), "12034");
            due(25, "numbers", x.step(0, 4), 4);
            due(25, "seen", x.count(5), 1);
        }
        type(x, "05;s");
        due(25, "restore() leaves the page", x.restore(), 1);
        due(25, "letters", x.count(6), 4);
        type(x, "2,c1");
        x.routine();
        due(25, "another routine, if the same text", x.restore(), STATE);
        x.image();
        due(25, "an image of that one", x.restore(), 0);
    }

    private static void count() {
        DeckHands x = read("06;c1,t4");
        x.whole();
        // 123450, then 432150
        due(26, "lies", lies(x), "432150");
        x.see(0, 1, 0);
        x.home(0);
        type(x, "1234");
        int[] want = {6, 2, 1, 11, 2, 1, 4, 1, 1};
        for (int what = 0; what < want.length; what++) due(26, "count(" + what + ")", x.count(what), want[what]);
        for (int what : new int[] {-1, 9, LOW, HIGH}) due(26, "count(" + what + ")", x.count(what), OUTSIDE);
        due(26, "all lie the other way", read("12;t9").count(3), 0);
        DeckHands y = read("12;d1");
        y.act(0);
        due(26, "all lie the other way", y.count(3), 66);
    }

    private static void digest() {
        DeckHands x = read("07;s3,o2,t4,d3,c9,s9");
        digestIs(x);
        x.whole();
        x.see(1, 0, 3);
        digestIs(x);
        x.home(0);
        type(x, "~12");
        digestIs(x);
        x.see(1, 0, 0);
        x.exchange(2, 5);
        digestIs(x);
        DeckHands y = typed("0");
        digestIs(y);
    }

    private static void digestIs(DeckHands x) {
        long h = 1321;
        for (int s = 0; s < x.count(1); s++) {
            for (int what = 0; what <= 5; what++) h = 31 * h + x.step(s, what);
        }
        for (int p = 0; p < x.count(0); p++) {
            h = 31 * h + x.at(p);
            h = 31 * h + x.round(p);
            h = 31 * h + x.after(p, 7);
        }
        if (x.count(1) > 0) {
            for (int what = 0; what <= 3; what++) h = 31 * h + x.rings(what);
            h = 31 * (31 * h + x.bring(0, 1, 0)) + x.bring(0, 1, 1);
            h = 31 * (31 * h + x.odds(0, 1, 3, 0)) + x.odds(0, 1, 3, 1);
        }
        String page = x.count(6) == 3 ? "~12" : x.count(6) == 1 ? "0" : "";
        for (int i = 0; i < page.length(); i++) h = 31 * h + page.charAt(i);
        for (int what = 0; what <= 8; what++) h = 31 * h + x.count(what);
        due(27, "digest()", x.digest(), h);
    }

    private static void refusalsChangeNothing() {
        DeckHands x = read("05;s2,o3");
        x.whole();
        x.see(0, 0, 1);
        x.image();
        type(x, "05;s");
        long before = x.digest();
        x.letter(0);
        x.routine();
        x.step(9, 0);
        x.act(9);
        x.exchange(1, 1);
        x.change(0, 5, 1);
        x.change(0, 1, 10);
        x.home(2);
        x.see(0, 0, 9);
        x.odds(0, 0, 9, 0);
        x.runs(0, 1, 0);
        x.rings(9);
        x.count(9);
        due(27, "digest() behind refusals", x.digest(), before);
        x.restore();
        due(27, "digest() behind restore()", x.digest(), before);
    }
}
