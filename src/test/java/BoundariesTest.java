import java.io.IOException;
import java.lang.reflect.InvocationTargetException;
import java.lang.reflect.Method;
import java.math.BigInteger;
import java.nio.file.Files;
import java.nio.file.Path;
import java.util.ArrayList;
import java.util.HashMap;
import java.util.List;
import java.util.Map;
import java.util.regex.Matcher;
import java.util.regex.Pattern;

/**
 * Each sentence of the document that names a boundary, promise by promise. A row names the promise and
 * quotes the sentence; at the end the document itself is asked whether each quote is its own, and
 * whether a sentence was left out. Run from the project's folder.
 *
 * <p>A row is a script of calls, each with the answer that is due: "act(0)=1". Besides: "read:05;s2"
 * types and reads a routine, "type:05;" types alone, "lies=012" asks how the pack lies, "20*" repeats.
 *
 * <p>A refused call is made on one of two objects that were led to the same state: all that both answer
 * from there on must be alike, or the refusal has changed something.
 */
public final class BoundariesTest {
    private static final int UNKNOWN = -101, OUTSIDE = -102, STATE = -103, FULL = -104;
    private static final Map<String, Integer> WORDS = Map.of(
        "NONE", -1, "UNKNOWN", UNKNOWN, "OUTSIDE", OUTSIDE, "STATE", STATE, "FULL", FULL,
        "LOW", Integer.MIN_VALUE, "HIGH", Integer.MAX_VALUE);
    private static final int PROMISED_CALLS = 512;
    private static final int PROMISES = 27;
    private static final String SEVERAL =
        "Refusals, of several the first as told by each call: UNKNOWN (a number names nothing), "
        + "OUTSIDE (it is not as told), STATE (as told), FULL; they change nothing.";
    /** Six steps, seven cards, and something of all that a refused call could spoil. */
    private static final String RICH = "read:07;s3,c2,d3,t4,o2,s9 act(0) see(0,0,3) image() act(2) exchange(1,4)"
        + " see(2,0,6) home(0) type:05;s";

    private static final Map<String, Method> CALLS = new HashMap<>();
    private static final List<List<String>> quotes = new ArrayList<>();
    private static int asked = 0;
    private static int wrong = 0;

    public static void main(String[] args) throws IOException {
        for (Method m : DeckHands.class.getMethods()) CALLS.put(m.getName(), m);
        for (int i = 0; i <= PROMISES; i++) quotes.add(new ArrayList<>());
        newObject();
        letter();
        blank();
        faultAtFirst();
        faultInSteps();
        routineSizes();
        routineRefused();
        routineAnew();
        stepRefused();
        stepTold();
        stepNumbers();
        stepWatch();
        as();
        at();
        goes();
        goesByKinds();
        goesByDeals();
        act();
        whole();
        exchange();
        sort();
        change();
        round();
        after();
        rings();
        bring();
        homeSteps();
        homeRefused();
        odds();
        see();
        forget();
        runs();
        runsDrawn();
        image();
        restore();
        count();
        digest();
        callsPromised();
        document(Files.readString(Path.of("../shared/DOC.md")));
        System.out.println(asked + " answers asked at boundaries, " + wrong + " wrong");
        if (wrong != 0) System.exit(1);
    }

    // ---- the rows, by promise

    private static void newObject() {
        holds(1, "No ROUTINE.", "count(0)=0 count(1)=0 count(2)=0 count(3)=0 count(4)=0 count(5)=0 count(6)=0"
            + " count(7)=0 count(8)=0 fault()=0 blank()=0 forget()=0");
        holds(1, "At first there is none", "count(0)=0 count(1)=0 restore()=STATE lies=");
        refuses(1, "No ROUTINE.", UNKNOWN, "", "step(0,0)", "as(0,0)", "at(0)", "goes(0,0)", "act(0)", "exchange(0,1)",
            "change(0,0,0)", "round(0)", "after(0,0)", "bring(0,0,0)", "odds(0,0,1,0)", "see(0,0,0)");
        refuses(1, "No ROUTINE.", STATE, "", "routine()", "whole()", "sort()", "rings(0)", "home(0)", "runs(1,0,0)",
            "image()", "restore()");
        refuses(1, SEVERAL, OUTSIDE, "", "letter(0)", "rings(4)", "home(2)", "runs(0,0,0)", "count(9)");
    }

    private static void letter() {
        String comes = "A letter comes behind THE PAGE, by its code: how many THE PAGE has.";
        holds(2, comes, "letter(48)=1 letter(53)=2 letter(59)=3 letter(116)=4 letter(51)=5 routine()=1 count(0)=5"
            + " step(0,0)=3 step(0,1)=3");
        holds(2, comes, RICH + " letter(49)=5 count(6)=5 fault()=5");
        holds(2, "OUTSIDE: code (1 to 126)", "letter(1)=1 letter(126)=2 count(6)=2");
        for (String lead : new String[] {"", RICH}) {
            refuses(2, "OUTSIDE: code (1 to 126)", OUTSIDE, lead, "letter(0)", "letter(127)", "letter(-1)", "letter(304)",
                "letter(LOW)", "letter(HIGH)");
        }
        holds(2, "FULL: above 22.", "21*letter(65) count(6)=21 letter(66)=22 count(6)=22");
        refuses(2, "FULL: above 22.", FULL, "22*letter(65)", "letter(65)", "letter(1)", "letter(126)");
        refuses(2, SEVERAL, OUTSIDE, "22*letter(65)", "letter(0)", "letter(127)");
    }

    private static void blank() {
        String empty = "THE PAGE is empty: how many letters it had.";
        holds(3, empty, "blank()=0 blank()=0 count(6)=0");
        holds(3, empty, "letter(1) blank()=1 blank()=0 fault()=0");
        holds(3, empty, "22*letter(65) blank()=22 count(6)=0 letter(48)=1 20*letter(65) letter(65)=22 letter(65)=FULL");
        holds(3, empty, "type:99;x blank()=4 read:02;s1 count(0)=2");
        holds(3, empty, RICH + " blank()=4 count(1)=6 count(4)=2 count(5)=2 restore()=1");
    }

    private static void faultAtFirst() {
        String first = "The place (from 0) of the first letter of THE PAGE that no ROUTINE has there";
        String behind = "behind those ahead of it";
        holds(4, "how many letters it has, if there is none.", "fault()=0");
        for (String text : new String[] {"0", "1", "02", "09", "10", "12", "05;", "05;s", "05;s0", "05;o9,",
            "12;s0,c1,d2,t3,o4,s9"}) {
            holds(4, "how many letters it has, if there is none.", "type:" + text + " fault()=" + text.length());
        }
        for (String text : new String[] {"2", "9", "/", ":", ";", "s", ",", "~", "x5;s1", "5;s1"}) {
            holds(4, first, "type:" + text + " fault()=0");
        }
        holds(4, first, "letter(1) fault()=0 letter(48) fault()=0");
        holds(4, first, "22*letter(65) fault()=0");
        for (String text : new String[] {"00", "01", "0/", "0:", "0;", "13", "19", "1/", "1;", "1s"}) {
            holds(4, behind, "type:" + text + " fault()=1");
        }
        for (String text : new String[] {"03:", "09,", "10s", "123", "02;;"}) {
            holds(4, behind, "type:" + text + " fault()=" + (text.equals("02;;") ? 3 : 2));
        }
        // The first of several, and asking changes nothing.
        holds(4, first, "type:05;x/ fault()=3 fault()=3 count(6)=5 blank()=5 type:0 fault()=1");
    }

    private static void faultInSteps() {
        String kinds = "KINDS are told by the letter";
        for (char c : "scdto".toCharArray()) holds(4, kinds, "type:05;" + c + " fault()=4");
        for (char c : "SCDTOabenpruz,;09~".toCharArray()) holds(4, kinds, "type:05;" + c + " fault()=3");
        String each = "each a letter, the KIND, and a digit, its NUMBER.";
        for (char c : "0123456789".toCharArray()) holds(4, each, "type:05;s" + c + " fault()=5");
        for (char c : "/:s,;~".toCharArray()) holds(4, each, "type:05;s" + c + " fault()=4");
        String between = "with \",\" between";
        holds(4, between, "type:05;s1, fault()=6");
        for (char c : "+-;.0s".toCharArray()) holds(4, between, "type:05;s1" + c + " fault()=5");
        holds(4, between, "type:05;s1,, fault()=6");
        String six = "one to six STEPS";
        holds(4, six, "type:05;s1,c2,d3,t4,o5,s6 fault()=20");
        holds(4, six, "type:05;s1,c2,d3,t4,o5,s6, fault()=20 letter(115)=22 fault()=20");
        holds(4, six, "type:05;s1,c2,d3,t4,o5,s66 fault()=20");
        holds(4, six, "type:05;s1,c2,d3,t4,o5,sx fault()=19");
    }

    private static void routineSizes() {
        String cards = "how many CARDS there are (02 to 12)";
        for (int n = 2; n <= 12; n++) {
            String text = String.format("%02d;s0", n);
            holds(5, cards, "read:" + text + " count(0)=" + n + " at(" + (n - 1) + ")=" + (n - 1) + " at(" + n + ")=UNKNOWN");
        }
        for (String text : new String[] {"00;s0", "01;s0", "13;s0", "19;s0", "20;s0", "99;s0", "2;s0", "002;s0", "-2;s0"}) {
            refuses(5, cards, STATE, "type:" + text, "routine()");
        }
        String six = "one to six STEPS (numbered from 0)";
        holds(5, six, "read:02;s0 count(1)=1 step(0,0)=0 step(1,0)=UNKNOWN");
        holds(5, six, "read:12;s0,c9,d1,t8,o2,s7 count(1)=6 step(0,1)=0 step(5,1)=7 step(6,0)=UNKNOWN");
        for (String text : new String[] {"05;", "05;s1,c2,d3,t4,o5,s6,", "05;s1,c2,d3,t4,o5,s6,s"}) {
            refuses(5, six, STATE, "type:" + text, "routine()");
        }
        holds(5, "how many STEPS", "type:02;s0,c1,d2 routine()=3");
        holds(5, "KINDS are told by the letter: 0 STEP \"s\", 1 CUT \"c\", 2 DEAL \"d\", 3 TURN \"t\", 4 OVER \"o\".",
            "read:02;s0,c0,d0,t0,o0 step(0,0)=0 step(1,0)=1 step(2,0)=2 step(3,0)=3 step(4,0)=4");
    }

    private static void routineRefused() {
        String none = "STATE: it is none.";
        for (String text : new String[] {"", "0", "05", "05;s", "05;s1,", "05;s1,c", "05:s1", "05;x1", "05;s1c2", "05;s1;c2",
            "05;s1,,c2", "05;,s1", "05;s12", "05;s", "05;S1", "~", "05;s1,c2,d3,t4,o5,s6,~"}) {
            refuses(5, none, STATE, "type:" + text, "routine()");
        }
        // The routine that was there, its image and the page outlast it.
        refuses(5, none, STATE, RICH, "routine()");
        refuses(5, none, STATE, RICH + " blank()", "routine()");
        refuses(5, none, STATE, "22*letter(48)", "routine()");
    }

    private static void routineAnew() {
        String gone = "THE PAGE is read as THE ROUTINE (another one is gone, with all that was)";
        holds(5, gone, RICH + " blank() read:03;d2 lies=012 count(0)=3 count(1)=1 count(4)=0 count(5)=0 restore()=STATE"
            + " step(0,4)=1023 step(1,0)=UNKNOWN at(3)=UNKNOWN goes(0,3)=UNKNOWN act(1)=UNKNOWN");
        holds(5, gone, "read:02;s1 act(0) read:12;o9 lies=0123456789ab count(4)=0 rings(2)=7");
        holds(5, gone, "read:05;c1 act(0) see(0,0,4) read:05;c1 lies=01234 count(4)=0 count(5)=0 count(7)=2");
        String empty = "THE PAGE is empty then.";
        holds(5, empty, "read:05;s1,c2,d3,t4,o5,s6 count(6)=0 fault()=0 routine()=STATE count(7)=1 letter(48)=1");
        holds(5, empty, "read:05;s1 22*letter(65) count(6)=22 letter(65)=FULL");
        holds(5, "then CARD 0 lies on top, CARD 1 below it, and so on; nothing is DONE.",
            "read:02;t2 lies=01 count(4)=0 read:12;t2 lies=0123456789ab count(4)=0");
    }

    private static void stepRefused() {
        refuses(6, "UNKNOWN; OUTSIDE.", UNKNOWN, RICH, "step(-1,0)", "step(6,0)", "step(LOW,4)", "step(HIGH,5)");
        refuses(6, "UNKNOWN; OUTSIDE.", UNKNOWN, "read:12;s1", "step(1,0)", "step(1,5)");
        refuses(6, "UNKNOWN; OUTSIDE.", OUTSIDE, RICH, "step(0,-1)", "step(0,6)", "step(5,6)", "step(5,LOW)", "step(0,HIGH)");
        refuses(6, SEVERAL, UNKNOWN, RICH, "step(6,6)", "step(-1,-1)", "step(HIGH,LOW)");
    }

    private static void stepTold() {
        holds(6, "what = 0 KIND, 1 NUMBER", "read:05;s0,c9,d0,t9,o0,o9 step(0,0)=0 step(1,0)=1 step(2,0)=2 step(3,0)=3"
            + " step(4,0)=4 step(5,0)=4 step(0,1)=0 step(1,1)=9 step(2,1)=0 step(3,1)=9 step(4,1)=0 step(5,1)=9");
        String stay = "2 how many PLACES stay by it";
        holds(6, stay, "read:12;s0,c1,t1,s9,t9,d1 step(0,2)=12 step(1,2)=0 step(2,2)=12 step(3,2)=2 step(4,2)=4 step(5,2)=0");
        // Of 11 turned about the middle one stays; of 2 cards all of them or none.
        holds(6, stay, "read:11;d1,o9 step(0,2)=1 read:02;c2,c1,o2 step(0,2)=2 step(1,2)=0 step(2,2)=2");
        String few = "3 behind how few of it, one behind the other, each CARD lies where it did";
        holds(6, few, "read:12;s0,c0,t0,t1,o9,s1 step(0,3)=1 step(1,3)=1 step(2,3)=1 step(3,3)=1 step(5,3)=2");
        holds(6, few, "read:12;c1,c5,c6,c8,c9,s9 step(0,3)=12 step(1,3)=12 step(2,3)=2 step(3,3)=3 step(4,3)=4 step(5,3)=10");
        // 0>11>4>3>5>2>7>0 and 1>9>8>10>6>1: seven times five, more than there are cards.
        holds(6, few, "read:12;d8 step(0,3)=35 step(0,2)=0");
        holds(6, few, "read:02;c2,s9 step(0,3)=1 step(1,3)=2");
    }

    private static void stepNumbers() {
        String bits = "NUMBERS (0 to 9) it can have, KIND as it is, so that all that is SEEN of it is so: as bits.";
        holds(6, "4 NUMBERS, as bits", "read:12;s3,c9 step(0,4)=1023 step(1,4)=1023");
        holds(6, bits, "read:12;s3 see(0,0,0) step(0,4)=1");
        holds(6, bits, "read:12;s3 see(0,0,9) step(0,4)=512");
        // No plain step brings the top farther than nine; from the last place on nothing moves.
        holds(6, bits, "read:12;s3 see(0,0,10) step(0,4)=0 step(0,5)=NONE");
        holds(6, bits, "read:12;s3 see(0,11,11) step(0,4)=1023");
        // What is seen goes by its own step alone.
        holds(6, bits, "read:12;s3,s3 see(1,0,9) step(0,4)=1023 step(1,4)=512");
        // Of few cards many numbers do the same.
        holds(6, bits, "read:02;s0 see(0,0,1) step(0,4)=1022 see(0,0,0) step(0,4)=0");
        holds(6, bits, "read:02;c0 see(0,0,1) step(0,4)=682 read:02;c0 see(0,1,1) step(0,4)=341");
        holds(6, bits, "read:02;d0 see(0,0,1) step(0,4)=1023 read:02;o0 see(0,0,0) step(0,4)=1020");
        holds(6, bits, "read:02;t0 see(0,0,0) step(0,4)=3 read:10;c0 see(0,0,1) step(0,4)=512");
        holds(6, "KIND as it is", "read:05;s3 see(0,4,0) step(0,4)=0 change(0,1,0)=0 step(0,4)=528 change(0,3,0) step(0,4)=992");
        // The number that it has in truth is not asked.
        holds(6, "KIND as it is", "read:12;s3 see(0,0,5) step(0,4)=32 change(0,0,9)=0 step(0,4)=32");
    }

    private static void stepWatch() {
        holds(6, "5 WATCH (NONE).", "read:05;s2 see(0,0,0) see(0,0,1) step(0,4)=0 step(0,5)=NONE forget() step(0,5)=0");
        String next = "which PLACE to watch next, so that fewest of these are left at worst, by where what lies there comes to lie";
        // By a deal of three 0 comes to 2 whatever the number is; 1 and 2 each tell the number 2 from the others.
        holds(6, next, "read:03;d0 step(0,5)=1");
        holds(6, next, "read:12;s0,c0,t0 step(0,5)=0 step(1,5)=0 step(2,5)=0");
        // Numbers 0 to 4 are left: each of them brings the top elsewhere.
        holds(6, next, "read:12;s9 see(0,5,5) step(0,4)=31 step(0,5)=0");
        holds(6, next, "read:08;d0,o0 step(0,5)=1 step(1,5)=1 read:09;d0,o0 step(0,5)=2 step(1,5)=7 read:12;d0,o0 step(0,5)=5 step(1,5)=5");
        String like = "of like ones the least; none, if there are none.";
        // Numbers 0, 1, 4 and 5 are left: two of them at worst, by where the top comes to lie and by others.
        holds(6, like, "read:08;o0 see(0,2,5) step(0,4)=51 step(0,5)=0");
        // One number is left: all places tell as little.
        holds(6, like, "read:12;s3 see(0,0,4) step(0,4)=16 step(0,5)=0");
        // By a cut of two the odd numbers and the even ones: both places tell as much.
        holds(6, like, "read:02;c0 step(0,5)=0");
        // By a deal of two all numbers do the same at each place.
        holds(6, like, "read:02;d0 step(0,5)=0");
        holds(6, like, "read:02;d0 see(0,0,0) step(0,4)=0 step(0,5)=NONE");
    }

    private static void as() {
        String taken = "A STEP taken as a KIND: its number";
        String none = "NONE: it is none such (the cast fails).";
        String lead = "read:06;s1,c2,d3,t4,o5,s6 ";
        holds(7, "All are STEPS", lead + "as(0,0)=0 as(1,0)=1 as(2,0)=2 as(3,0)=3 as(4,0)=4 as(5,0)=5");
        holds(7, taken, lead + "as(1,1)=1 as(2,2)=2 as(3,3)=3 as(4,4)=4");
        holds(7, "an OVER is a DEAL, too.", lead + "as(4,2)=4 as(4,4)=4 as(2,4)=NONE");
        holds(7, none, lead + "as(0,1)=NONE as(0,2)=NONE as(0,3)=NONE as(0,4)=NONE as(5,4)=NONE as(1,2)=NONE as(1,3)=NONE"
            + " as(1,4)=NONE as(2,1)=NONE as(2,3)=NONE as(3,1)=NONE as(3,2)=NONE as(3,4)=NONE as(4,1)=NONE as(4,3)=NONE");
        holds(7, taken, lead + "change(0,4,1) as(0,2)=0 as(0,4)=0 change(4,0,1) as(4,2)=NONE as(4,0)=4");
        refuses(7, "UNKNOWN; OUTSIDE.", UNKNOWN, RICH, "as(-1,0)", "as(6,0)", "as(LOW,4)", "as(HIGH,4)");
        refuses(7, "UNKNOWN; OUTSIDE.", OUTSIDE, RICH, "as(0,-1)", "as(0,5)", "as(5,5)", "as(0,LOW)", "as(5,HIGH)");
        refuses(7, SEVERAL, UNKNOWN, RICH, "as(-1,-1)", "as(6,5)");
    }

    private static void at() {
        String which = "Which CARD lies at a PLACE.";
        holds(8, which, "read:02;s1 at(0)=0 at(1)=1 act(0) at(0)=1 at(1)=0");
        holds(8, "PLACES are numbered from 0, the top one, down.", "read:12;s9 at(0)=0 at(11)=11 act(0) at(0)=1 at(9)=0 at(11)=11");
        refuses(8, "UNKNOWN.", UNKNOWN, RICH, "at(-1)", "at(7)", "at(12)", "at(LOW)", "at(HIGH)");
        refuses(8, "UNKNOWN.", UNKNOWN, "read:02;s1", "at(2)");
        refuses(8, "UNKNOWN.", UNKNOWN, "read:12;s1", "at(12)");
    }

    private static void goes() {
        String where = "GOES of a STEP for a PLACE: at which PLACE what lies there comes to lie.";
        holds(9, where, "read:07;s3,c2,d3,t4,o2,s9 goes(0,0)=3 goes(0,6)=6 goes(5,0)=6 goes(5,6)=5");
        // How the pack lies is not asked, nor does it lie otherwise then.
        holds(9, where, "read:03;c1 goes(0,0)=2 exchange(0,2)=2 goes(0,0)=2 goes(0,2)=1 lies=210 count(4)=0");
        holds(9, "GOES.", "read:02;s0 goes(0,0)=0 goes(0,1)=1");
        refuses(9, "UNKNOWN: step, place.", UNKNOWN, RICH, "goes(-1,0)", "goes(6,0)", "goes(0,-1)", "goes(0,7)", "goes(5,7)",
            "goes(6,7)", "goes(LOW,0)", "goes(0,LOW)", "goes(HIGH,0)", "goes(0,HIGH)");
    }

    private static void goesByKinds() {
        String last = "By a plain STEP the top CARD comes to the PLACE of the NUMBER, but no farther than the last one"
            + " (those above it move up).";
        lies(9, last, "05;s0", "01234", "05;s1", "10234", "05;s3", "12304", "05;s4", "12340", "05;s5", "12340", "05;s9", "12340",
            "02;s0", "01", "02;s1", "10", "02;s2", "10", "02;s9", "10", "10;s9", "1234567890", "09;s9", "123456780",
            "12;s9", "1234567890ab");
        String rest = "By a CUT so many from the top as the NUMBER is, by how many CARDS there are its rest, go to the bottom"
            + " as they are.";
        lies(9, rest, "05;c0", "01234", "05;c1", "12340", "05;c4", "40123", "05;c5", "01234", "05;c6", "12340", "05;c9", "40123",
            "02;c1", "10", "02;c2", "01", "02;c9", "10", "03;c9", "012", "09;c9", "012345678", "10;c9", "9012345678",
            "12;c9", "9ab012345678");
        String all = "By a TURN so many on top as the NUMBER is, all if there are not so many, are turned about";
        lies(9, all, "05;t0", "01234", "05;t1", "01234", "05;t2", "10234", "05;t4", "32104", "05;t5", "43210", "05;t6", "43210",
            "05;t9", "43210", "02;t1", "01", "02;t2", "10", "02;t3", "10", "09;t9", "876543210", "10;t9", "8765432109",
            "12;t9", "8765432109ab");
    }

    private static void goesByDeals() {
        String piles = "into as many piles as the NUMBER is (1, if it is 0; no more than there are CARDS)";
        lies(9, piles, "05;d0", "43210", "05;d1", "43210", "05;d4", "32140", "05;d5", "43210", "05;d6", "43210", "05;d9", "43210",
            "02;d0", "10", "02;d1", "10", "02;d2", "10", "02;d9", "10", "09;d9", "876543210", "12;d9", "876543b2a190");
        String one = "one on each in turn, from the first pile on, each upon the one that lies there; then the second pile is laid"
            + " upon the first one, the third one upon these, and so on, till all lie in one";
        lies(9, one, "05;d2", "31420", "05;d3", "24130", "06;d2", "531420", "06;d3", "524130", "10;d4", "7362951840");
        String over = "by an OVER the piles are laid the other way about: the one before the last upon the last one, and so on,"
            + " the first one on top of all.";
        lies(9, over, "05;o0", "43210", "05;o1", "43210", "05;o2", "42031", "05;o4", "40123", "05;o5", "01234", "05;o6", "01234",
            "05;o9", "01234", "02;o1", "10", "02;o2", "01", "02;o9", "01", "09;o9", "012345678", "10;o4", "8409516273",
            "12;o9", "90a1b2345678");
    }

    private static void act() {
        String done = "A STEP is DONE: which CARD is on top then.";
        holds(10, done, "read:05;s2,c2 count(4)=0 act(0)=1 lies=12034 act(1)=0 lies=03412 count(4)=2");
        // A step that moves nothing is done all the same.
        holds(10, done, "read:05;s0 act(0)=0 lies=01234 count(4)=1");
        holds(10, done, "read:05;s0,c1,c2,c3,c4,t5 act(5)=4 lies=43210");
        refuses(10, "UNKNOWN; FULL: 9999 were.", UNKNOWN, RICH, "act(-1)", "act(6)", "act(LOW)", "act(HIGH)");
        refuses(10, "UNKNOWN; FULL: 9999 were.", UNKNOWN, "read:05;s1", "act(1)");
        String nearly = "read:02;s1,s1,s1,s1,s1,s1 1666*whole() act(0) act(0) ";
        holdsLong(10, "FULL: 9999 were.", nearly + "count(4)=9998 lies=01 act(0)=1 count(4)=9999 act(0)=FULL count(4)=9999 lies=10");
        refusesLong(10, "FULL: 9999 were.", FULL, nearly + "act(0)", "act(0)", "act(5)");
        refusesLong(10, SEVERAL, UNKNOWN, nearly + "act(0)", "act(6)", "act(-1)");
    }

    private static void whole() {
        String all = "All STEPS of the ROUTINE are DONE, one behind the other: which CARD is on top then.";
        holds(11, all, "read:05;s2,c1,s2 whole()=0 lies=03241 count(4)=3");
        holds(11, all, "read:05;c1 whole()=1 count(4)=1 read:07;c1,c1,c1,c1,c1,c1 whole()=6 count(4)=6");
        refuses(11, "STATE: no ROUTINE", STATE, "", "whole()");
        refuses(11, "STATE: no ROUTINE", STATE, "type:05;s1", "whole()");
        String more = "FULL: there would be more than 9999.";
        String six = "read:02;s1,s1,s1,s1,s1,s1 1665*whole() ";
        // 9990 and three are 9993: six more are 9999, and none goes in then.
        holdsLong(11, more, six + "3*act(0) count(4)=9993 whole()=1 count(4)=9999 lies=10 whole()=FULL");
        // 9994 and six are one too many, though six steps by themselves are not.
        refusesLong(11, more, FULL, six + "4*act(0)", "whole()");
        holdsLong(11, more, six + "4*act(0) whole()=FULL act(0)=1 count(4)=9995");
        refusesLong(11, more, FULL, six + "9*act(0)", "whole()");
        holdsLong(11, more, "read:02;s1 9998*whole() whole()=1 count(4)=9999 whole()=FULL");
    }

    private static void exchange() {
        String two = "Two PLACES exchange their CARDS: which CARD is on top then.";
        holds(12, two, "read:02;s0 exchange(0,1)=1 lies=10 exchange(1,0)=0 lies=01");
        holds(12, two, "read:12;s0 exchange(0,11)=11 lies=b123456789a0 exchange(10,11)=11 lies=b1234567890a");
        holds(12, two, "read:12;s0 exchange(11,0)=11 lies=b123456789a0 count(4)=0");
        String unknown = "UNKNOWN: one, other, or they are the same.";
        refuses(12, unknown, UNKNOWN, RICH, "exchange(-1,0)", "exchange(0,-1)", "exchange(7,0)", "exchange(0,7)", "exchange(6,7)",
            "exchange(LOW,0)", "exchange(0,HIGH)");
        refuses(12, unknown, UNKNOWN, RICH, "exchange(0,0)", "exchange(6,6)", "exchange(-1,-1)", "exchange(7,7)");
    }

    private static void sort() {
        String again = "All lie as at first again (what is DONE stays): how many did.";
        holds(13, again, "read:12;s0 sort()=12 lies=0123456789ab count(4)=0");
        holds(13, again, "read:12;c1 act(0) sort()=0 lies=0123456789ab count(4)=1 sort()=12");
        holds(13, again, "read:05;t3 act(0) act(0) act(0) see(0,0,2) sort()=3 count(4)=3 count(5)=1 step(0,1)=3");
        holds(13, again, "read:02;s1 act(0) sort()=0 lies=01");
        refuses(13, "STATE: no ROUTINE.", STATE, "", "sort()");
        refuses(13, "STATE: no ROUTINE.", STATE, "type:05;s1", "sort()");
    }

    private static void change() {
        String other = "A STEP is another one: of which KIND it was.";
        holds(14, other, "read:05;s1,c1 change(0,4,9)=0 step(0,0)=4 step(0,1)=9 change(0,0,0)=4 step(0,0)=0 step(0,1)=0"
            + " change(0,1,0)=0 change(0,2,0)=1 change(0,3,0)=2 change(0,3,9)=3 step(1,0)=1 step(1,1)=1");
        // How the pack lies, what is done and seen stay; what would be goes by the new one.
        holds(14, other, "read:05;s1,c1 act(0) see(0,0,1) change(0,3,5)=0 lies=10234 count(4)=1 count(5)=1 goes(0,0)=4"
            + " round(0)=3 act(0)=4 lies=43201");
        holds(14, other, "read:05;s1 change(0,0,1)=0 goes(0,0)=1");
        refuses(14, "UNKNOWN; OUTSIDE: kind (0 to 4), number (0 to 9).", UNKNOWN, RICH, "change(-1,0,0)", "change(6,0,0)",
            "change(LOW,4,9)", "change(HIGH,4,9)");
        refuses(14, "OUTSIDE: kind (0 to 4), number (0 to 9).", OUTSIDE, RICH, "change(0,-1,0)", "change(0,5,0)", "change(0,0,-1)",
            "change(0,0,10)", "change(5,5,10)", "change(5,LOW,9)", "change(5,HIGH,9)", "change(0,4,LOW)", "change(0,4,HIGH)");
        refuses(14, SEVERAL, UNKNOWN, RICH, "change(-1,5,10)", "change(6,-1,-1)");
    }

    private static void round() {
        String same = "ROUND: the same of all STEPS of the ROUTINE, one behind the other.";
        holds(15, same, "read:05;s2,c1 round(0)=1 round(1)=4 round(2)=0 round(3)=2 round(4)=3 lies=01234 count(4)=0");
        holds(15, same, "read:05;s2,c1 exchange(0,4) act(0) round(0)=1 round(4)=3");
        holds(15, "ROUND.", "read:02;s0 round(0)=0 round(1)=1 read:07;c1,c1,c1,c1,c1,c1 round(0)=1 round(6)=0");
        refuses(15, "UNKNOWN: place.", UNKNOWN, RICH, "round(-1)", "round(7)", "round(LOW)", "round(HIGH)");
        refuses(15, "UNKNOWN: place.", UNKNOWN, "read:12;s1", "round(12)");
    }

    private static void after() {
        // By c5,t4 of twelve: 0>7>1>8>0, 2>9>4>11>6>2, 3>10>5>3.
        String lead = "read:12;c5,t4 ";
        String many = "AFTER so many ROUTINES (0 to a thousand million) for a PLACE: to which PLACE what lies there now has come.";
        holds(16, many, lead + "after(0,0)=0 after(11,0)=11 after(0,1)=7 after(11,1)=6 after(0,2)=1 after(0,3)=8 after(0,4)=0");
        holds(16, many, lead + "after(2,59)=6 after(2,60)=2 after(2,61)=9 after(3,59)=5 after(3,60)=3 after(0,59)=8");
        holds(16, "times (0 to 1000000000)", lead + "after(0,1000000000)=0 after(2,1000000000)=2 after(3,1000000000)=10"
            + " after(0,999999999)=8 after(2,999999999)=6 after(3,999999999)=3");
        holds(16, "AFTER.", "read:02;s0 after(1,1000000000)=1 read:02;s1 after(1,1000000000)=1 after(1,999999999)=0");
        holds(16, many, lead + "exchange(0,11) after(0,1)=7 lies=b123456789a0 count(4)=0");
        refuses(16, "UNKNOWN: place", UNKNOWN, RICH, "after(-1,0)", "after(7,0)", "after(LOW,1)", "after(HIGH,1)");
        refuses(16, "OUTSIDE: times (0 to 1000000000).", OUTSIDE, RICH, "after(0,-1)", "after(6,1000000001)", "after(0,LOW)",
            "after(0,HIGH)");
        refuses(16, SEVERAL, UNKNOWN, RICH, "after(-1,-1)", "after(7,1000000001)");
    }

    private static void rings() {
        String order = "ORDER: behind how few ROUTINES (1 at least) each CARD lies where it did.";
        holds(17, order, "read:12;s0 rings(0)=1 read:02;c1,c1 rings(0)=1 read:02;c1 rings(0)=2 read:12;c1 rings(0)=12");
        // Rings of 3, 4 and 5: no pack of twelve has a greater order than 60.
        holds(17, order, "read:12;c5,t4 rings(0)=60 rings(1)=3 rings(2)=5 rings(3)=0");
        String rings = "RINGS: the PLACES fall into such as one comes round by ROUTINES: how many there are; how long the longest is;"
            + " how many PLACES stay by a ROUTINE.";
        holds(17, rings, "read:12;s0 rings(1)=12 rings(2)=1 rings(3)=12 read:12;c1 rings(1)=1 rings(2)=12 rings(3)=0");
        holds(17, rings, "read:02;s0 rings(1)=2 rings(2)=1 rings(3)=2 read:02;s1 rings(1)=1 rings(2)=2 rings(3)=0");
        holds(17, "what = 0 ORDER, 1 how many RINGS, 2 how long the longest is, 3 how many PLACES stay.",
            "read:12;s4 rings(0)=5 rings(1)=8 rings(2)=5 rings(3)=7 exchange(0,1) rings(0)=5 rings(3)=7");
        refuses(17, "OUTSIDE; STATE: no ROUTINE.", OUTSIDE, RICH, "rings(-1)", "rings(4)", "rings(LOW)", "rings(HIGH)");
        refuses(17, "STATE: no ROUTINE.", STATE, "", "rings(0)", "rings(3)");
        refuses(17, SEVERAL, OUTSIDE, "", "rings(-1)", "rings(4)");
    }

    private static void bring() {
        String there = "by which that CARD, from where it lies now, comes there (0: it is there)";
        holds(18, there, "read:07;c1,c3 bring(0,0,0)=0 bring(6,6,0)=0 bring(0,6,0)=1 act(0) bring(0,6,0)=0 bring(0,0,0)=2");
        String first = "the first of these STEPS: the least that is as good (none: it is there); none.";
        holds(18, first, "read:07;c1,c3 bring(0,0,1)=NONE bring(6,6,1)=NONE act(0) bring(0,6,1)=NONE");
        // Four up by one and three, in either order; six up by three twice.
        holds(18, first, "read:07;c1,c3 bring(4,0,0)=2 bring(4,0,1)=0 bring(6,0,0)=2 bring(6,0,1)=1");
        holds(18, first, "read:05;s0,s0,s0,s0,s0,t5 bring(0,4,0)=1 bring(0,4,1)=5");
        holds(18, first, "read:05;d1,t5 bring(0,4,1)=0 bring(0,3,0)=NONE bring(0,3,1)=NONE");
        holds(18, "1 which first (NONE); NONE.", "read:07;s2,t3 bring(2,3,0)=NONE bring(2,3,1)=NONE bring(3,2,0)=NONE"
            + " bring(3,2,1)=NONE bring(3,3,0)=0 bring(3,3,1)=NONE");
        String fewest = "the fewest STEPS of the ROUTINE, in any order, each as often as it likes";
        // As many as there are other places; and less than one by one where a longer step helps.
        holds(18, fewest, "read:12;c1 bring(0,1,0)=11 bring(0,1,1)=0 bring(0,11,0)=1 read:12;c1,c5 bring(11,0,0)=3");
        holds(18, "BRING: what = 0 how many", "read:02;s1 bring(0,1,0)=1 bring(1,0,0)=1 bring(1,1,0)=0 lies=01 count(4)=0");
        refuses(18, "UNKNOWN: card, place", UNKNOWN, RICH, "bring(-1,0,0)", "bring(7,0,0)", "bring(0,-1,0)", "bring(0,7,0)",
            "bring(LOW,0,1)", "bring(0,HIGH,1)");
        refuses(18, "UNKNOWN: card, place; OUTSIDE.", OUTSIDE, RICH, "bring(0,0,-1)", "bring(0,0,2)", "bring(6,6,LOW)",
            "bring(6,6,HIGH)");
        refuses(18, SEVERAL, UNKNOWN, RICH, "bring(7,0,2)", "bring(0,7,2)", "bring(-1,-1,-1)");
    }

    private static void homeSteps() {
        String most = "HOME: the fewest such STEPS (4 at most) by which all lie as at first";
        holds(19, most, "read:05;c1 act(0) home(0)=4 home(1)=1111 lies=12340 count(4)=1");
        holds(19, most, "read:06;c1 act(0) home(0)=NONE home(1)=NONE act(0) home(0)=4 act(0) home(0)=3 act(0) home(0)=2"
            + " home(1)=11 act(0) home(0)=1 home(1)=1 act(0) home(0)=0 home(1)=0");
        holds(19, "0: none is wanted", "read:12;s1 home(0)=0 home(1)=0 exchange(0,1) home(0)=1 home(1)=1");
        String digits = "told by digits (STEP 0 as 1, and on; the first one the highest figure";
        holds(19, digits, "read:05;s0,s0,s0,s0,s0,c1 act(5) home(0)=4 home(1)=6666");
        // 10234 turned about is 20134, and s2 brings the top there; 02134 needs them the other way.
        holds(19, digits, "read:05;s2,t3 exchange(0,1) home(1)=21 sort() exchange(1,2) home(1)=12");
        String least = "of as many the least by digits; none.";
        holds(19, least, "read:05;t5,d1 act(0) home(0)=1 home(1)=1 read:07;c2,c1 4*act(1) home(0)=2 home(1)=12");
        holds(19, least, "read:09;c3,c1 act(1) home(0)=4 home(1)=1122 exchange(0,1) home(0)=NONE home(1)=NONE");
        // Eight and then six are wanted of one, three and five: what was found before is not where it begins.
        holds(19, least, "read:12;c1,c3,c5 4*act(0) home(1)=23 2*act(0) home(1)=13");
        holds(19, "HOME: what = 0 how many, 1 which; NONE.", "read:02;s0 exchange(0,1) home(0)=NONE home(1)=NONE count(8)=2");
    }

    private static void homeRefused() {
        String often = "STATE: no ROUTINE, or home() was done 30 times.";
        holds(19, often, "read:02;s1 29*home(0)=0 count(8)=29 home(1)=0 count(8)=30 home(0)=STATE home(1)=STATE count(8)=30");
        // One that finds no way is done, too; one that is refused is not.
        holds(19, often, "read:02;s0 exchange(0,1) 30*home(0)=NONE count(8)=30 home(0)=STATE");
        holds(19, often, "40*home(0)=STATE read:02;s1 40*home(2)=OUTSIDE count(8)=0 30*home(1)=0 home(1)=STATE");
        // An image does not keep how often it was.
        holds(19, often, "read:02;s1 image() 30*home(0) restore()=0 count(8)=30 home(0)=STATE");
        refuses(19, often, STATE, "", "home(0)", "home(1)");
        refuses(19, often, STATE, RICH + " 29*home(1)", "home(0)", "home(1)");
        refuses(19, "OUTSIDE; STATE: no ROUTINE", OUTSIDE, RICH, "home(-1)", "home(2)", "home(LOW)", "home(HIGH)");
        refuses(19, SEVERAL, OUTSIDE, "", "home(-1)", "home(2)");
        refuses(19, SEVERAL, OUTSIDE, RICH + " 29*home(1)", "home(-1)", "home(2)");
    }

    private static void odds() {
        String parts = "each is one of those of the ROUTINE, each as likely: how likely that CARD is there then, in whole parts.";
        holds(20, parts, "read:05;s1,s2,s0 odds(0,0,1,0)=1 odds(0,0,1,1)=3 odds(0,1,1,0)=1 odds(0,2,1,1)=3 lies=01234 count(4)=0");
        String lowest = "ODDS: what = 0 above, 1 below, in lowest terms (0 of 1).";
        holds(20, lowest, "read:05;s0,s1 odds(0,4,1,0)=0 odds(0,4,1,1)=1 odds(0,4,8,0)=0 odds(0,4,8,1)=1");
        holds(20, lowest, "read:05;s0,s1 odds(4,4,1,0)=1 odds(4,4,1,1)=1 odds(4,4,8,0)=1 odds(4,4,8,1)=1");
        holds(20, lowest, "read:05;s0,s1 odds(0,1,2,0)=1 odds(0,1,2,1)=2 odds(0,0,8,0)=1 odds(0,0,8,1)=2");
        String eight = "ODDS for a CARD, a PLACE and so many STEPS (1 to 8)";
        // One way of six to the eighth, and the five to the eighth that leave all as it is.
        holds(20, eight, "read:09;s0,s0,s0,s0,s0,c1 odds(8,0,8,0)=1 odds(8,0,8,1)=1679616 odds(8,8,8,0)=390625"
            + " odds(8,8,8,1)=1679616 odds(8,0,7,0)=0 odds(8,0,7,1)=1");
        holds(20, eight, "read:05;c1 odds(0,4,1,0)=1 odds(0,4,1,1)=1 odds(0,2,8,0)=1 act(0) odds(0,4,1,0)=0 odds(0,3,1,0)=1");
        refuses(20, "UNKNOWN: card, place", UNKNOWN, RICH, "odds(-1,0,1,0)", "odds(7,0,1,0)", "odds(0,-1,1,0)", "odds(0,7,1,0)",
            "odds(LOW,0,8,1)", "odds(0,HIGH,8,1)");
        refuses(20, "OUTSIDE: steps (1 to 8), what.", OUTSIDE, RICH, "odds(0,0,0,0)", "odds(0,0,9,0)", "odds(0,0,-1,0)",
            "odds(6,6,LOW,1)", "odds(6,6,HIGH,1)", "odds(0,0,1,-1)", "odds(0,0,8,2)", "odds(0,0,1,LOW)", "odds(0,0,8,HIGH)");
        refuses(20, SEVERAL, UNKNOWN, RICH, "odds(7,0,0,2)", "odds(0,7,9,0)", "odds(-1,-1,-1,-1)");
    }

    private static void see() {
        String most = "SEEN (6 at most)";
        holds(21, most, "read:05;s2,c1 see(0,0,1)=1 see(0,0,1)=2 see(0,0,1)=3 see(1,0,1)=4 see(1,0,1)=5 count(5)=5 see(1,0,1)=6"
            + " see(1,0,1)=FULL see(0,0,1)=FULL count(5)=6");
        holds(21, most, "read:05;s2 6*see(0,0,0) forget()=6 see(0,4,4)=1 4*see(0,4,4) see(0,4,4)=6 see(0,4,4)=FULL step(0,4)=15");
        holds(21, "came to lie at another one (or the same).", "read:12;t3 see(0,0,0)=1 step(0,4)=3 see(0,11,11)=2 step(0,4)=3");
        // It is taken as told, if no number does it or the step's own one does not.
        holds(21, "It is SEEN: how much is.", "read:12;s3 see(0,0,11)=1 step(0,4)=0 see(0,11,0)=2 goes(0,0)=3 lies=0123456789ab");
        holds(21, "It is SEEN: how much is.", "read:12;s0,s0,s0,s0,s0,s3 see(5,0,9)=1 step(5,4)=512 step(4,4)=1023");
        refuses(21, "UNKNOWN: step, from, to; FULL.", UNKNOWN, RICH, "see(-1,0,0)", "see(6,0,0)", "see(0,-1,0)", "see(0,7,0)",
            "see(0,0,-1)", "see(0,0,7)", "see(LOW,0,0)", "see(0,HIGH,0)", "see(0,0,LOW)");
        refuses(21, "FULL.", FULL, "read:07;s3,c2 act(0) image() see(0,0,2) 5*see(1,0,4)", "see(0,0,0)", "see(1,6,6)");
        refuses(21, SEVERAL, UNKNOWN, "read:07;s3 6*see(0,0,2)", "see(1,0,0)", "see(0,7,0)", "see(0,0,7)");
    }

    private static void forget() {
        String nothing = "Nothing is SEEN any more: how much was.";
        holds(22, nothing, "forget()=0 count(5)=0 read:05;s2 forget()=0");
        holds(22, nothing, "read:05;s2,c1 see(0,0,0) step(0,4)=1 forget()=1 step(0,4)=1023 count(5)=0 forget()=0");
        holds(22, nothing, "read:05;s2 act(0) 6*see(0,0,0) forget()=6 count(5)=0 lies=12034 count(4)=1 step(0,1)=2");
        holds(22, nothing, "read:05;s2 see(0,0,0) image() forget()=1 restore() count(5)=1 forget()=1");
    }

    private static void runs() {
        // A cut of one, whatever is drawn: the top tells how many were.
        String lead = "read:05;c1 ";
        holds(23, "RUNS: what = 0 how many CARDS, 1 which CARD, 2 the SEED then.", lead + "runs(1,0,0)=0 runs(1,0,1)=1"
            + " runs(1,0,2)=12345 runs(5,0,0)=5 runs(5,0,1)=0");
        holds(23, "times (1 to 99)", lead + "runs(1,7,1)=1 runs(98,7,1)=3 runs(99,7,1)=4 runs(95,7,0)=5");
        holds(23, "RUNS by a SEED, as they would be", lead + "runs(99,1,1)=4 lies=01234 count(4)=0 exchange(0,1) runs(1,0,1)=0"
            + " runs(5,0,0)=3 runs(5,0,1)=1");
        holds(23, "how many CARDS lie then where they did at first", lead + "act(0) runs(4,0,0)=5 runs(4,0,1)=0 runs(5,0,0)=0");
        refuses(23, "OUTSIDE: times (1 to 99), seed (0 at least), what", OUTSIDE, RICH, "runs(0,0,0)", "runs(100,0,0)",
            "runs(-1,0,0)", "runs(LOW,0,0)", "runs(HIGH,0,0)", "runs(1,-1,0)", "runs(99,LOW,2)", "runs(1,0,-1)", "runs(1,0,3)",
            "runs(99,HIGH,LOW)", "runs(99,HIGH,HIGH)");
        refuses(23, "STATE: no ROUTINE.", STATE, "", "runs(1,0,0)", "runs(99,HIGH,2)");
        refuses(23, SEVERAL, OUTSIDE, "", "runs(0,0,0)", "runs(100,0,0)", "runs(1,-1,0)", "runs(1,0,3)");
    }

    private static void runsDrawn() {
        String draws = "DRAWS: the next SEED each time: 1103515245 times it and 12345, its rest by 2 to the 31";
        holds(23, draws, "read:05;c1 runs(1,0,2)=12345 runs(2,0,2)=1406932606 runs(3,0,2)=654583775 runs(1,1,2)=1103527590");
        // 2 to the 31 less one: 1103515245 times it is, by its rest, as much less than nothing.
        holds(23, "seed (0 at least)", "read:05;c1 runs(1,HIGH,2)=1043980748");
        // Step i cuts i. By 0 are drawn 0, 21468, 9988, 22117, 3498, 16927, 16045; by 1 16838, 5758, 10113.
        String rest = "then that by 65536 (rounded down), its rest.";
        String lead = "read:07;s0,c1,c2,c3,c4,c5 ";
        holds(23, rest, lead + "runs(1,0,1)=0 runs(1,0,0)=7 runs(2,0,1)=0 runs(3,0,1)=4 runs(4,0,1)=5 runs(5,0,1)=5 runs(6,0,1)=6"
            + " runs(7,0,1)=0 runs(7,0,0)=7 runs(6,0,0)=0");
        holds(23, rest, lead + "runs(1,1,1)=2 runs(2,1,1)=6 runs(3,1,1)=2");
        holds(23, "a DRAW of how many there are", "read:07;c3,c1 runs(1,1,1)=3 runs(2,1,1)=6 runs(3,1,1)=0 read:07;c1,c2,c3 runs(1,1,1)=3"
            + " runs(2,1,1)=5 runs(3,1,1)=6");
    }

    private static void image() {
        String kept = "An IMAGE is kept (one; the latest): how many STEPS were DONE.";
        holds(24, kept, "read:05;s2,c1 image()=0 whole() image()=2 act(0) image()=3 image()=3 count(4)=3");
        holds(24, "(one; the latest)", "read:05;c1 act(0) image()=1 act(0) image()=2 act(0) restore()=2 lies=23401 restore()=2");
        // An image is no part of an image: the latest is still there behind a restore().
        holds(24, "(one; the latest)", "read:05;c1 image()=0 act(0) image()=1 restore()=1 act(0) restore()=1 lies=12340");
        refuses(24, "STATE: no ROUTINE.", STATE, "", "image()");
        refuses(24, "STATE: no ROUTINE.", STATE, "type:05;s1", "image()");
    }

    private static void restore() {
        String on = "It goes on from the IMAGE: how many STEPS were DONE.";
        String keeps = "An IMAGE keeps KINDS, NUMBERS, how the pack lies, what is DONE, SEEN.";
        holds(25, on, "read:05;c1 image() restore()=0 act(0) restore()=0 lies=01234 count(4)=0 act(0)=1 count(4)=1");
        holds(25, keeps, "read:05;s2,c1 act(0) see(0,0,2) image()=1 change(0,4,3) change(1,2,9) whole() exchange(1,2) forget()"
            + " see(1,1,1) see(1,1,1) restore()=1 step(0,0)=0 step(0,1)=2 step(1,0)=1 step(1,1)=1 goes(0,0)=2 goes(1,0)=4"
            + " lies=12034 count(4)=1 count(5)=1 step(0,4)=4 step(1,4)=1023");
        holds(25, keeps, "read:12;s0,s0,s0,s0,c1,c2 image() change(4,3,9) change(5,0,1) restore() goes(4,0)=11 goes(4,11)=10 goes(5,0)=10"
            + " goes(5,11)=9 round(0)=9 round(11)=8 act(5)=2 lies=23456789ab01");
        // What is full of seen in the image is full again; what was empty is empty.
        holds(25, keeps, "read:05;s2 6*see(0,0,2) image() forget() restore() count(5)=6 see(0,0,2)=FULL");
        holds(25, keeps, "read:05;s2 image() 6*see(0,0,2) restore() count(5)=0 step(0,4)=1023 see(0,0,0)=1");
        // It keeps neither the page nor what was counted of all.
        holds(25, keeps, "read:05;s2 type:05 image() type:;s home(0) restore() count(6)=4 fault()=4 count(7)=1 count(8)=1");
        String none = "STATE: none was kept, or there is another ROUTINE since.";
        refuses(25, none, STATE, "", "restore()");
        refuses(25, none, STATE, "read:05;s2 act(0) see(0,0,2)", "restore()");
        refuses(25, none, STATE, RICH + " blank() read:07;s3,c2,d3,t4,o2,s9 act(1)", "restore()");
        refuses(25, none, STATE, "read:05;s2 image() read:05;s2", "restore()");
        holds(25, none, "read:05;s2 image() read:05;c1 restore()=STATE act(0) image()=1 act(0) restore()=1");
        // A page that is none is not another routine.
        holds(25, none, "read:05;s2 act(0) image() type:05; routine()=STATE blank() routine()=STATE act(0) restore()=1 lies=12034");
    }

    private static void count() {
        holds(26, "0 CARDS, 1 STEPS", "read:02;s0 count(0)=2 count(1)=1 read:12;s0,s0,s0,s0,s0,s0 count(0)=12 count(1)=6");
        holds(26, "2 CARDS that lie as at first", "read:12;c1,s1 count(2)=12 act(1) count(2)=10 act(0) count(2)=1");
        holds(26, "2 CARDS that lie as at first", "read:02;s1 count(2)=2 act(0) count(2)=0");
        String twos = "3 twos of CARDS of which the greater one lies above the lesser one";
        holds(26, twos, "read:12;d1 count(3)=0 act(0) count(3)=66 exchange(0,1) count(3)=65 sort() exchange(0,11) count(3)=21");
        holds(26, twos, "read:02;s1 count(3)=0 act(0) count(3)=1");
        holds(26, "4 what is DONE, 5 what is SEEN", "read:05;s1 count(4)=0 act(0) count(4)=1 count(5)=0 6*see(0,0,0) count(5)=6");
        holds(26, "6 letters of THE PAGE", "count(6)=0 letter(1) count(6)=1 21*letter(1) count(6)=22 letter(1) count(6)=22");
        holds(26, "7 how often a ROUTINE was read, 8 how often home() was done.", "routine() home(0) count(7)=0 count(8)=0 read:05;s1"
            + " routine() count(7)=1 home(0) home(1) home(2) count(8)=2 40*home(0) count(8)=30 read:05;s1 count(7)=2 count(8)=30");
        for (String lead : new String[] {"", RICH}) {
            refuses(26, "OUTSIDE.", OUTSIDE, lead, "count(-1)", "count(9)", "count(LOW)", "count(HIGH)");
        }
    }

    private static void digest() {
        String nothing = "h is 1321, then for each of these numbers, in order, 31 times h, and it (as longs, wrapping)";
        digestIs(nothing, "", "");
        digestIs("letters of THE PAGE", "letter(1)", "\u0001");
        digestIs("letters of THE PAGE", "21*letter(126) letter(1)", "~".repeat(21) + "\u0001");
        digestIs("letters of THE PAGE", "type:05; blank()", "");
        digestIs("with a ROUTINE rings() for 0 to 3, bring() of CARD 0 to PLACE 1 for 0 and 1, odds() of these by 3 for 0 and 1",
            "read:02;s0", "");
        digestIs("of each STEP what step() tells for 0 to 5", RICH, "05;s");
        digestIs("of each PLACE what at(), round() tell, after() of 7", "read:12;d8,o7,c5,t4,s9,d3 whole() see(0,0,0) see(0,0,1)", "");
        digestIs("what count() tells for 0 to 8.", RICH + " 29*home(0) 10*letter(65)", "05;s" + "A".repeat(10));
        holds(27, nothing, "digest()=" + 1321L * 31 * 31 * 31 * 31 * 31 * 31 * 31 * 31 * 31);
    }

    /** What the document asks of h, by numbers that do not wrap but at the end. */
    private static void digestIs(String sentence, String lead, String page) {
        Run run = new Run(27, sentence, PROMISED_CALLS);
        run.script(lead);
        List<Long> told = new ArrayList<>();
        long cards = run.ask("count(0)");
        long steps = run.ask("count(1)");
        for (int s = 0; s < steps; s++) {
            for (int what = 0; what <= 5; what++) told.add(run.ask("step(" + s + "," + what + ")"));
        }
        for (int p = 0; p < cards; p++) {
            for (String call : new String[] {"at(" + p + ")", "round(" + p + ")", "after(" + p + ",7)"}) told.add(run.ask(call));
        }
        if (steps > 0) {
            for (int what = 0; what <= 3; what++) told.add(run.ask("rings(" + what + ")"));
            for (String call : new String[] {"bring(0,1,0)", "bring(0,1,1)", "odds(0,1,3,0)", "odds(0,1,3,1)"}) told.add(run.ask(call));
        }
        for (char c : page.toCharArray()) told.add((long) c);
        for (int what = 0; what <= 8; what++) told.add(run.ask("count(" + what + ")"));
        BigInteger h = BigInteger.valueOf(1321);
        for (long number : told) h = h.multiply(BigInteger.valueOf(31)).add(BigInteger.valueOf(number));
        run.script("digest()=" + h.longValue() + " digest()=" + h.longValue());
    }

    private static void callsPromised() {
        String most = "An object is used for at most 512 calls after it has been made";
        holds(10, most, "read:02;s1 504*act(0) count(4)=504 at(0)=0");
        holds(11, most, "read:11;c1,c1,c1,c1,c1,c1 489*whole() count(4)=2934 at(0)=8");
        holds(26, most, "85*read:02;s1 count(7)=85 count(1)=1");
    }

    // ---- how a row is run

    private static void holds(int promise, String sentence, String script) {
        new Run(promise, sentence, PROMISED_CALLS).script(script);
    }

    /** More calls than are promised, where the document's limit is not reached by fewer. */
    private static void holdsLong(int promise, String sentence, String script) {
        new Run(promise, sentence, Integer.MAX_VALUE).script(script);
    }

    /** Pairs: a routine of one step, and how the pack lies behind it; by goes() and by act(). */
    private static void lies(int promise, String sentence, String... pairs) {
        for (int i = 0; i < pairs.length; i += 2) {
            StringBuilder goes = new StringBuilder();
            for (int place = 0; place < pairs[i + 1].length(); place++) {
                int card = Character.digit(pairs[i + 1].charAt(place), 36);
                goes.append(" goes(0,").append(card).append(")=").append(place);
            }
            holds(promise, sentence, "read:" + pairs[i] + goes + " act(0) lies=" + pairs[i + 1]);
        }
    }

    private static void refuses(int promise, String sentence, int refusal, String lead, String... calls) {
        for (String call : calls) refusesOne(promise, sentence, refusal, lead, call, PROMISED_CALLS);
    }

    private static void refusesLong(int promise, String sentence, int refusal, String lead, String... calls) {
        for (String call : calls) refusesOne(promise, sentence, refusal, lead, call, Integer.MAX_VALUE);
    }

    private static void refusesOne(int promise, String sentence, int refusal, String lead, String call, int most) {
        Run refused = new Run(promise, sentence, most);
        Run left = new Run(promise, sentence, most);
        refused.script(lead);
        left.script(lead);
        refused.script(call + "=" + refusal);
        for (String probe : probes((int) left.ask("count(0)"), (int) left.ask("count(1)"))) {
            long want = left.ask(probe);
            long got = refused.ask(probe);
            refused.due("behind the refused " + call + " " + probe, got, want);
        }
    }

    /** All that can be asked; then calls that change things, so that what is hidden shows. */
    private static List<String> probes(int cards, int steps) {
        List<String> all = new ArrayList<>(List.of("digest()", "fault()"));
        for (int what = 0; what <= 8; what++) all.add("count(" + what + ")");
        for (int p = 0; p < cards; p++) {
            all.addAll(List.of("at(" + p + ")", "round(" + p + ")", "bring(" + p + ",0,0)", "odds(" + p + ",0,8,0)"));
            for (int s = 0; s < steps; s++) all.add("goes(" + s + "," + p + ")");
        }
        for (int s = 0; s < steps; s++) {
            for (int what = 0; what <= 5; what++) all.add("step(" + s + "," + what + ")");
        }
        String changing = "runs(99,1,0) runs(99,1,1) runs(99,1,2) home(0) home(1) act(0) whole() see(0,0,0) digest() restore()"
            + " digest() at(0) at(1) see(0,1,1) digest() exchange(0,1) image() sort() restore() digest() forget() letter(48) fault()"
            + " routine() digest() blank() letter(48) letter(51) letter(59) letter(99) letter(49) routine() restore() act(0) see(0,0,0)"
            + " home(1) digest()";
        all.addAll(List.of(changing.split(" ")));
        return all;
    }

    /** One object, the promise that is tried on it, and what was called so far. */
    private static final class Run {
        private static final Pattern CALL = Pattern.compile("(\\w+)\\(([^)]*)\\)");
        private final DeckHands hands = new DeckHands();
        private final int promise;
        private final String sentence;
        private final int most;
        private final StringBuilder trail = new StringBuilder();
        private int calls = 0;

        Run(int promise, String sentence, int most) {
            this.promise = promise;
            this.sentence = sentence;
            this.most = most;
            quotes.get(promise).add(sentence);
        }

        void script(String script) {
            for (String token : script.trim().split(" +")) {
                int star = token.indexOf('*');
                int times = star < 0 ? 1 : Integer.parseInt(token.substring(0, star));
                for (int i = 0; i < times; i++) one(token.substring(star + 1));
                trail.append(token).append(' ');
            }
        }

        private void one(String token) {
            if (token.isEmpty()) return;
            if (token.startsWith("type:") || token.startsWith("read:")) {
                String text = token.substring(5);
                for (char c : text.toCharArray()) ask("letter(" + (int) c + ")");
                if (token.startsWith("read:")) due(token, ask("routine()"), (text.length() - 2) / 3);
                return;
            }
            int equals = token.indexOf('=');
            if (token.startsWith("lies=")) {
                dueLies(token.substring(equals + 1));
            } else if (equals < 0) {
                ask(token);
            } else {
                due(token.substring(0, equals), ask(token.substring(0, equals)), number(token.substring(equals + 1)));
            }
        }

        private void dueLies(String want) {
            StringBuilder got = new StringBuilder();
            long cards = ask("count(0)");
            for (int p = 0; p < cards; p++) got.append(Long.toString(ask("at(" + p + ")"), 36));
            tell(got.toString().equals(want), "the pack lies " + got + ", due is " + want);
        }

        void due(String call, long got, long want) {
            tell(got == want, call + " answered " + got + ", due is " + want);
        }

        private void tell(boolean holds, String what) {
            asked++;
            if (!holds) {
                wrong++;
                System.out.println("promise " + promise + " (" + sentence + "): " + what + ", behind " + trail);
            }
        }

        long ask(String call) {
            calls++;
            if (calls == most + 1) tell(false, "the row has more calls than are promised");
            Matcher m = CALL.matcher(call);
            if (!m.matches() || !CALLS.containsKey(m.group(1))) throw new IllegalArgumentException(call);
            String[] words = m.group(2).isEmpty() ? new String[0] : m.group(2).split(",");
            Object[] arguments = new Object[words.length];
            for (int i = 0; i < words.length; i++) arguments[i] = (int) number(words[i]);
            try {
                return ((Number) CALLS.get(m.group(1)).invoke(hands, arguments)).longValue();
            } catch (InvocationTargetException e) {
                tell(false, call + " threw " + e.getCause());
                return Long.MIN_VALUE;
            } catch (IllegalAccessException e) {
                throw new IllegalArgumentException(call, e);
            }
        }

        private static long number(String word) {
            return WORDS.containsKey(word) ? WORDS.get(word) : Long.parseLong(word);
        }
    }

    // ---- the document

    /** Each quote is the document's own, and each of its sentences is quoted. */
    private static void document(String text) {
        String plain = text.replaceAll("```\\w*", " ").replaceAll("={8} \\d", " ").replaceAll("\\s+", " ");
        String terms = between(plain, "## What it is", "## The public face") + between(plain, "## Terms", "## Promise 1:");
        for (int n = 1; n <= PROMISES; n++) {
            String promise = between(plain, "## Promise " + n + ":", n < PROMISES ? "## Promise " + (n + 1) + ":" : "## Not promised");
            for (String quote : quotes.get(n)) {
                if (!promise.contains(quote) && !terms.contains(quote)) fault("promise " + n + " does not say: " + quote);
            }
            String body = promise.replaceFirst(".*?`.*?`: ", "");
            for (String clause : body.split("(?<=[.;]) ")) {
                if (!isQuoted(clause.trim(), quotes.get(n))) fault("promise " + n + " has no row for: " + clause);
            }
        }
        List<String> all = new ArrayList<>();
        for (List<String> some : quotes) all.addAll(some);
        for (String clause : between(plain, "## Terms", "Ahead of the calls").split("(?<=\\.) ")) {
            if (!isQuoted(clause.trim(), all)) fault("the terms have no row for: " + clause);
        }
    }

    private static String between(String text, String from, String to) {
        int start = text.indexOf(from);
        int end = text.indexOf(to, start + 1);
        if (start < 0 || end < 0) {
            fault("the document has no " + from);
            return "";
        }
        return text.substring(start + from.length(), end);
    }

    private static boolean isQuoted(String clause, List<String> some) {
        for (String quote : some) {
            if (quote.contains(clause) || clause.contains(quote)) return true;
        }
        return clause.isEmpty();
    }

    private static void fault(String what) {
        wrong++;
        System.out.println(what);
    }
}
