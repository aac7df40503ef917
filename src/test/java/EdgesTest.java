import java.math.BigInteger;
import java.util.HashMap;
import java.util.Map;

/**
 * Each sentence of the document that names an edge, with a test of its own: the last value that is
 * allowed and the first that is not, on both sides; the empty, the full, the wrap-around; the call
 * that is refused and changes nothing. No object is asked more than the 512 calls it is made for.
 */
public final class EdgesTest {
    private static final int UNKNOWN = -1, OUTSIDE = -2, STATE = -3, FULL = -4, NONE = -9;
    private static final int HELD = 0, FLIES = 1, CAUGHT = 2, GONE = 3;
    private static final int LEAST = Integer.MIN_VALUE, GREATEST = Integer.MAX_VALUE;
    private static final int ALL_CELLS = 1048575;
    private static final String FULL_CITY = "CW0W0W0W0Ba00Ba00Ba00Ba00Ba00Ha00Hb00Hc00Hd00";

    private static int wrong = 0;
    private static int asked = 0;
    private static int sentences = 0;
    private static String sentence = "";

    private interface Doing {
        long on(RedBalloons x);
    }

    private interface State {
        RedBalloons make();
    }

    private static void sentence(String words) {
        sentence = words;
        sentences++;
    }

    private static void due(String call, long got, long want) {
        asked++;
        if (got != want) {
            wrong++;
            System.out.println("\"" + sentence + "\": " + call + " answered " + got + ", due is " + want);
        }
    }

    private static void same(String call, String got, String want) {
        asked++;
        if (!got.equals(want)) {
            wrong++;
            System.out.println("\"" + sentence + "\": behind " + call + " the answers are\n  " + got + "\nand were\n  " + want);
        }
    }

    private static void tell(RedBalloons x, String text) {
        for (int i = 0; i < text.length(); i++) {
            x.write(text.charAt(i));
        }
    }

    private static RedBalloons texted(String text) {
        RedBalloons x = new RedBalloons();
        tell(x, text);
        return x;
    }

    private static RedBalloons over(String text) {
        RedBalloons x = texted(text);
        if (x.city() < 0) {
            due("city() of " + text, STATE, 0);
        }
        return x;
    }

    /** The city with these balloons let go of, by bits. */
    private static RedBalloons letOver(String text, int balloons) {
        RedBalloons x = over(text);
        for (int b = 0; b < 5; b++) {
            if ((balloons >> b & 1) != 0) {
                x.let(b);
            }
        }
        return x;
    }

    private static void hours(RedBalloons x, int n) {
        for (int i = 0; i < n; i++) {
            x.hour();
        }
    }

    // ---- what an object is, as one text: 370 calls at the most, by which it is used up

    private static String brief(RedBalloons x) {
        StringBuilder s = new StringBuilder();
        for (int what : new int[] {4, 6, 7, 8, 9, 11}) {
            s.append(x.count(what)).append(' ');
        }
        for (int b = 0; b < 5; b++) {
            s.append(x.balloon(b, 0)).append(' ').append(x.balloon(b, 5)).append(' ');
        }
        return s.append("/ ").toString();
    }

    private static String full(RedBalloons x) {
        StringBuilder s = new StringBuilder();
        for (int what = 0; what < 14; what++) {
            s.append(x.count(what)).append(' ');
        }
        for (int b = 0; b < 5; b++) {
            for (int what = 0; what < 8; what++) {
                s.append(x.balloon(b, what)).append(' ');
            }
        }
        for (int h = 0; h < 4; h++) {
            for (int what = 0; what < 4; what++) {
                s.append(x.hedge(h, what)).append(' ');
            }
        }
        return s.append("/ ").toString();
    }

    private static String everything(RedBalloons x) {
        StringBuilder s = new StringBuilder(full(x));
        s.append(x.fault()).append(' ').append(x.seed(0)).append(' ');
        for (int kind = 0; kind < 4; kind++) {
            s.append(x.began(kind)).append(' ');
        }
        for (int left = x.undo(); left >= 0; left = x.undo()) {
            s.append("undone ").append(left).append(' ').append(brief(x));
        }
        for (int slot = 0; slot < 2; slot++) {
            s.append("again ").append(x.again(slot)).append(' ').append(brief(x));
        }
        s.append("city ").append(x.city()).append(' ').append(brief(x));
        return s.append(x.lose()).append(' ').append(x.wipe()).toString();
    }

    // ---- two states in which calls are refused

    private static RedBalloons empty() {
        return new RedBalloons();
    }

    /**
     * Balloon 0 is held, 1 flies, 2 and 4 are caught, 3 is gone; 48 letters with a fault, 14 acts,
     * 6 found, slot 0 kept and slot 1 not.
     */
    private static RedBalloons busy() {
        RedBalloons x = letOver("CW1W2Bg00Bb00Bk01Be00Bp22Hl01Hq22Ht33Hs11", 30);
        x.hour();
        x.keep(0);
        x.hour();
        x.right(0, 2);
        for (int i = 0; i < 4; i++) {
            x.hour();
            x.right(i, i + 1);
        }
        for (int i = 0; i < 6; i++) {
            x.find(i, i);
        }
        x.seed(77);
        x.wipe();
        tell(x, FULL_CITY + "CCC");
        return x;
    }

    private static final Map<State, String> UNTOUCHED = new HashMap<>();
    private static final State EMPTY = EdgesTest::empty;
    private static final State BUSY = EdgesTest::busy;

    private static void leaves(State state, String call, long want, Doing doing) {
        RedBalloons x = state.make();
        due(call, doing.on(x), want);
        same(call, everything(x), UNTOUCHED.computeIfAbsent(state, s -> everything(s.make())));
    }

    private static void refused(String call, long want, Doing doing) {
        leaves(BUSY, call, want, doing);
    }

    private static void refusedOverNothing(String call, long want, Doing doing) {
        leaves(EMPTY, call, want, doing);
    }

    private static void busyIsAsTold() {
        sentence("A BALLOON is HELD (0), FLIES (1), is CAUGHT (2) in a HEDGE, or GONE (3).");
        RedBalloons x = busy();
        int[] what = {HELD, FLIES, CAUGHT, GONE, CAUGHT};
        for (int b = 0; b < 5; b++) {
            due("balloon(" + b + ", 3)", x.balloon(b, 3), what[b]);
            due("held", x.count(6) >> b & 1, what[b] == HELD ? 1 : 0);
            due("flies", x.count(7) >> b & 1, what[b] == FLIES ? 1 : 0);
            due("caught", x.count(8) >> b & 1, what[b] == CAUGHT ? 1 : 0);
            due("gone", x.count(9) >> b & 1, what[b] == GONE ? 1 : 0);
        }
        due("letters", x.count(0), 48);
        due("acts", x.count(12), 14);
        due("found", x.count(13), 6);
        due("hour", x.count(4), 6);
        due("seed", x.seed(0), 77);
        due("again(1)", x.again(1), STATE);
        due("again(0)", x.again(0), 1);
    }

    // ---- terms: refusals

    private static void firstRefusalThatACallNames() {
        sentence("REFUSALS, of several the first that a call names");
        refused("write(256) of 48 letters", OUTSIDE, x -> x.write(256));
        refused("write(-1) of 48 letters", OUTSIDE, x -> x.write(-1));
        refused("balloon(5, 8)", UNKNOWN, x -> x.balloon(5, 8));
        refused("hedge(4, 4)", UNKNOWN, x -> x.hedge(4, 4));
        refused("right(5, 5)", UNKNOWN, x -> x.right(5, 5));
        refused("later(5, 21, 2)", UNKNOWN, x -> x.later(5, 21, 2));
        refused("find(20, 10) of 6", UNKNOWN, x -> x.find(20, 10));
        refused("find(20, 9) of 6", UNKNOWN, x -> x.find(20, 9));
        refused("find(19, 10) of 6", OUTSIDE, x -> x.find(19, 10));
        refused("rests(5, 5, 2)", UNKNOWN, x -> x.rests(5, 5, 2));
        refused("rests(5, 1, 2)", UNKNOWN, x -> x.rests(5, 1, 2));
        refused("rests(1, 1, 0)", OUTSIDE, x -> x.rests(1, 1, 0));
        refused("rests(0, 1, 2)", OUTSIDE, x -> x.rests(0, 1, 2));
        refused("fails(5, 0, 0, 11)", UNKNOWN, x -> x.fails(5, 0, 0, 11, true));
        refused("fails(0, 4, 7, -1)", UNKNOWN, x -> x.fails(0, 4, 7, -1, false));
        refusedOverNothing("again(2), none being kept", UNKNOWN, x -> x.again(2));
        refusedOverNothing("let(0)", UNKNOWN, x -> x.let(0));
        refusedOverNothing("free(0)", UNKNOWN, x -> x.free(0));
        refusedOverNothing("best(0)", UNKNOWN, x -> x.best(0));
    }

    private static void fractions() {
        sentence("FRACTIONS are told above (below 0, if they are), below (1 and more), in least terms");
        RedBalloons less = letOver("CW1Ba00Hb01Hc00", 1);
        due("share(0) above", less.share(0, true), -1);
        due("share(0) below", less.share(0, false), 2);
        RedBalloons whole = letOver("CBa00Ba00Ba00Ba00Ba00Ha00", 31);
        due("share(0) of five above", whole.share(0, true), 5);
        due("share(0) of five below", whole.share(0, false), 1);
        RedBalloons nothing = over("CBa00Ha00Hb00Hc00Hd00");
        for (int h = 0; h < 4; h++) {
            due("share(" + h + ") of none above", nothing.share(h, true), 0);
            due("share(" + h + ") of none below", nothing.share(h, false), 1);
        }
        due("fails of none above", nothing.fails(0, 0, 6, 5, true), 0);
        due("fails of none below", nothing.fails(0, 0, 6, 5, false), 1);
        // South, east, east, east, south, east: o is reached if no wind fails, by a tenth each time.
        RedBalloons far = letOver("CW4W1W1W1Ba00Ho00", 1);
        due("fails by 9 tenths above", far.fails(0, 0, 6, 9, true), 1);
        due("fails by 9 tenths below", far.fails(0, 0, 6, 9, false), 1000000);
        due("fails by 5 tenths above", far.fails(0, 0, 6, 5, true), 1);
        due("fails by 5 tenths below", far.fails(0, 0, 6, 5, false), 64);
        RedBalloons near = letOver("CW1Ba00Hb00", 1);
        due("fails by 1 tenth above", near.fails(0, 0, 6, 1, true), 999999);
        due("fails by 1 tenth below", near.fails(0, 0, 6, 1, false), 1000000);
    }

    private static void refusalsOfFractions() {
        sentence("refusals of them are told likewise");
        refused("share(4, true)", UNKNOWN, x -> x.share(4, true));
        refused("share(4, false)", UNKNOWN, x -> x.share(4, false));
        refused("fails(5, 0, 1, 0, true)", UNKNOWN, x -> x.fails(5, 0, 1, 0, true));
        refused("fails(5, 0, 1, 0, false)", UNKNOWN, x -> x.fails(5, 0, 1, 0, false));
        refused("fails(0, 0, 7, 0, true)", OUTSIDE, x -> x.fails(0, 0, 7, 0, true));
        refused("fails(0, 0, 7, 0, false)", OUTSIDE, x -> x.fails(0, 0, 7, 0, false));
        refused("fails(0, 0, 1, 11, true)", OUTSIDE, x -> x.fails(0, 0, 1, 11, true));
        refused("fails(0, 0, 1, 11, false)", OUTSIDE, x -> x.fails(0, 0, 1, 11, false));
    }

    // ---- terms: the text

    /** Every letter behind a text: those that can be go on, all others are a fault at their place. */
    private static void onlyThese(String text, String letters) {
        for (int letter = 0; letter < 256; letter++) {
            RedBalloons x = texted(text);
            x.write(letter);
            boolean can = letters.indexOf(letter) >= 0;
            boolean faultless = x.fault() == NONE || x.fault() == text.length() + 1;
            due("letter " + letter + " behind " + text + " can be", faultless ? 1 : 0, can ? 1 : 0);
            if (!can) {
                due("fault() of letter " + letter + " behind " + text, x.fault(), text.length());
            }
        }
    }

    private static void lettersOfACity() {
        sentence("A CITY is a TEXT: C, then PARTS, none or more");
        onlyThese("", "C");
        onlyThese("C", "WBH");
        due("fault() of C", texted("C").fault(), NONE);
        due("city() of C", texted("C").city(), 0);
        sentence("Ww: a WIND w (0 to 4)");
        onlyThese("CW", "01234");
        sentence("CELLS are 0 to 19, told by letters a to t");
        onlyThese("CB", "abcdefghijklmnopqrst");
        onlyThese("CH", "abcdefghijklmnopqrst");
        for (int cell = 0; cell < 20; cell++) {
            RedBalloons x = over("CB" + (char) ('a' + cell) + "00H" + (char) ('a' + cell) + "00");
            due("balloon(0, 0)", x.balloon(0, 0), cell);
            due("hedge(0, 0)", x.hedge(0, 0), cell);
        }
        sentence("of KIND k: 0 RED, 1 STRAIGHT, 2 HEAVY, 3 LIGHT");
        onlyThese("CBa", "0123");
        sentence("whose child wished for x (0 to 3)");
        onlyThese("CBa0", "0123");
        sentence("that answers d (0 to 9) HOURS late");
        onlyThese("CHa", "0123456789");
        sentence("with a (0 to 3)");
        onlyThese("CHa0", "0123");
        sentence("a HEDGE at CELL c (where none is told yet)");
        onlyThese("CHa00H", "bcdefghijklmnopqrst");
        onlyThese("CHt00Hb00W0Bc00H", "acdefghijklmnopqrs");
        onlyThese("CHa00Ht00Hj00H", "bcdefghiklmnopqrs");
        due("a balloon may be where a hedge is", texted("CHa00Ba00Ba00").fault(), NONE);
    }

    private static void asManyParts() {
        sentence("WINDS (4 at most)");
        due("three", texted("CW0W0W0").city(), 300);
        due("four", texted("CW0W0W0W0").city(), 400);
        onlyThese("CW0W0W0", "WBH");
        onlyThese("CW0W0W0W0", "BH");
        sentence("BALLOONS (5 at most)");
        due("four", texted("CBa00Ba00Ba00Ba00").city(), 40);
        due("five", texted("CBa00Ba00Ba00Ba00Ba00").city(), 50);
        onlyThese("CBa00Ba00Ba00Ba00", "WBH");
        onlyThese("CBa00Ba00Ba00Ba00Ba00", "WH");
        sentence("HEDGES (4 at most)");
        due("three", texted("CHa00Hb00Hc00").city(), 3);
        due("four", texted("CHa00Hb00Hc00Hd00").city(), 4);
        onlyThese("CHa00Hb00Hc00", "WBH");
        onlyThese("CHa00Hb00Hc00Hd00", "WB");
        onlyThese(FULL_CITY, "");
        sentence("WINDS, BALLOONS, HEDGES are numbered as they are told, each for itself");
        RedBalloons x = over("CHb13W4Bt21W3Ha92Bf12W0");
        due("city()", x.city(), 322);
        due("balloon(0, 0)", x.balloon(0, 0), 19);
        due("balloon(1, 0)", x.balloon(1, 0), 5);
        due("hedge(0, 0)", x.hedge(0, 0), 1);
        due("hedge(1, 0)", x.hedge(1, 0), 0);
        int[] winds = {4, 3, 0, 4};
        for (int hour = 0; hour < 4; hour++) {
            due("count(5) in hour " + hour, x.count(5), winds[hour]);
            x.hour();
        }
    }

    private static void faults() {
        sentence("FAULT: the place of the first letter by which THE TEXT can be no CITY, whatever came behind it");
        due("a fault and a city behind it", texted("XCW0").fault(), 0);
        due("a fault and its end behind it", texted("CW5W0").fault(), 2);
        due("two faults", texted("CBa40Bu").fault(), 3);
        due("a fifth wind and what would end it", texted("CW0W0W0W0W0").fault(), 9);
        due("a hedge where one is, and what would end it", texted("CHa00Ha00").fault(), 6);
        sentence("(its length set aside)");
        due("48 letters, faultless for 45", texted(FULL_CITY + "W0W").fault(), 45);
        due("48 letters, all of them C", texted("C".repeat(48)).fault(), 1);
        sentence("its length, if it is only not at its end");
        String[] unended = {"", "CW", "CB", "CBt", "CBt3", "CH", "CHt", "CHt9", "CW0W0W0W0Ba00Ba00Ba00Ba00Ba00Ha00Hb00Hc00Hd0"};
        for (String text : unended) {
            RedBalloons x = texted(text);
            due("fault() of " + text, x.fault(), text.length());
            due("city() of " + text, x.city(), STATE);
        }
        sentence("NONE: none.");
        due("fault() of the fullest city", texted(FULL_CITY).fault(), NONE);
        due("the fullest city", texted(FULL_CITY).city(), 454);
    }

    private static void atFirst() {
        sentence("At first there is nothing. When THE CITY is made anew, all BALLOONS are HELD at their CELLS, THE HOUR is 0, "
            + "what comes for a BALLOON goes to its own child.");
        RedBalloons x = new RedBalloons();
        for (int what = 0; what < 14; what++) {
            due("count(" + what + ")", x.count(what), 0);
        }
        due("seed", x.seed(0), 0);
        RedBalloons anew = letOver("CW1Ba00Bc10Be20Bh30Bb03Hb00Hd03", 31);
        hours(anew, 3);
        anew.right(0, 4);
        anew.right(1, 3);
        due("nobody is held", anew.count(6), 0);
        due("city()", anew.city(), 152);
        int[] cells = {0, 2, 4, 7, 1};
        for (int b = 0; b < 5; b++) {
            due("cell", anew.balloon(b, 0), cells[b]);
            due("held", anew.balloon(b, 3), HELD);
            due("in no hedge", anew.balloon(b, 4), NONE);
            due("own child", anew.balloon(b, 5), b);
            due("not answered", anew.balloon(b, 6), 0);
        }
        due("hour", anew.count(4), 0);
    }

    // ---- terms: winds and hours

    // By the letters of cells, each wind in turn: where it leads; a point: there is no such cell.
    private static final String[] LEADS = {
        "abcdefghijklmnopqrst",
        "bcde.ghij.lmno.qrst.",
        ".abcd.fghi.klmn.pqrs",
        ".....abcdefghijklmno",
        "fghijklmnopqrst....."};

    private static int lead(int wind, int cell) {
        char to = LEADS[wind].charAt(cell);
        return to == '.' ? NONE : to - 'a';
    }

    /** Let go of in an hour of this wind: where it is then. */
    private static void goes(int kind, int wind, int cell, int to, int what) {
        RedBalloons x = letOver("CW" + wind + "B" + (char) ('a' + cell) + kind + "0", 1);
        String call = "kind " + kind + ", wind " + wind + ", from " + cell + ": ";
        due(call + "later cell", x.later(0, 1, 0), to);
        due(call + "later what", x.later(0, 1, 1), what);
        due(call + "caught", x.hour(), 0);
        due(call + "cell", x.balloon(0, 0), to);
        due(call + "what", x.balloon(0, 3), what);
    }

    private static void endsOfRows() {
        sentence("4 ROWS of 5 .. 1 east, 2 west, within the ROW, 3 north, 4 south .. where there is no such CELL, it is GONE");
        for (int wind = 0; wind < 5; wind++) {
            for (int cell = 0; cell < 20; cell++) {
                int first = lead(wind, cell);
                for (int kind = 0; kind < 3; kind++) {
                    goes(kind, wind, cell, first == NONE ? cell : first, first == NONE ? GONE : FLIES);
                }
                int second = first == NONE ? NONE : lead(wind, first);
                goes(3, wind, cell, first == NONE ? cell : second == NONE ? first : second, second == NONE ? GONE : FLIES);
            }
        }
        sentence("(where it was last, if it is GONE)");
        RedBalloons x = letOver("CW1Bd00Bd30Be00He00", 5);
        x.let(1);
        due("hour()", x.hour(), 1);
        due("later(2, 20, 0)", x.later(2, 20, 0), 4);
        hours(x, 3);
        due("balloon(2, 0)", x.balloon(2, 0), 4);
        due("balloon(2, 3): a hedge is there, but it is gone", x.balloon(2, 3), GONE);
        due("balloon(1, 0): gone ahead of its second cell", x.balloon(1, 0), 4);
        due("balloon(1, 3)", x.balloon(1, 3), GONE);
        due("hedge(0, 3)", x.hedge(0, 3), 1);
    }

    private static void windsComeRound() {
        sentence("THE WIND of an HOUR is that which is left of it by how many there are (none: still).");
        String[] cities = {"C", "CW3", "CW3W1", "CW3W1W4", "CW3W1W4W2"};
        int[] winds = {3, 1, 4, 2};
        for (int n = 0; n <= 4; n++) {
            RedBalloons x = over(cities[n]);
            for (int hour = 0; hour < 30; hour++) {
                due("count(5) of " + cities[n] + " in hour " + hour, x.count(5), n == 0 ? 0 : winds[hour % n]);
                x.hour();
            }
        }
        RedBalloons still = letOver("CBa00", 1);
        hours(still, 14);
        due("still", still.balloon(0, 0), 0);
        due("still flies", still.balloon(0, 3), FLIES);
    }

    private static void hoursOfKinds() {
        sentence("STRAIGHT: by that WIND by which it first went otherwise than still, always");
        RedBalloons straight = letOver("CW0W0W4W1Ba10", 1);
        int[] cells = {0, 0, 5, 10, 15, 15};
        for (int i = 0; i < 6; i++) {
            straight.hour();
            due("behind " + (i + 1) + " hours", straight.balloon(0, 0), cells[i]);
            due("behind " + (i + 1) + " hours", straight.balloon(0, 3), i == 5 ? GONE : FLIES);
        }
        RedBalloons going = letOver("CW4W1W3W2Ba10", 1);
        going.hour();
        due("later(0, 2, 0): its wind goes with it", going.later(0, 2, 0), 15);
        due("later(0, 3, 1)", going.later(0, 3, 1), GONE);
        going.keep(0);
        going.hour();
        going.undo();
        going.hour();
        due("undone: its wind is there still", going.balloon(0, 0), 10);
        going.again(0);
        going.hour();
        due("kept: its wind is there still", going.balloon(0, 0), 10);
        going.city();
        due("made anew: not let yet", going.later(0, 1, 0), 0);
        going.hour();
        going.let(0);
        going.hour();
        due("made anew: another wind", going.balloon(0, 0), 1);
        RedBalloons held = over("CW4W1Ba10");
        held.hour();
        held.let(0);
        hours(held, 4);
        due("the wind of hours in which it was held is no matter", held.balloon(0, 0), 4);
        sentence("HEAVY: in even HOURS alone");
        RedBalloons heavy = letOver("CW1Ba20", 1);
        int[] steps = {1, 1, 2, 2, 3, 3, 4, 4, 4};
        for (int i = 0; i < 9; i++) {
            heavy.hour();
            due("behind " + (i + 1) + " hours", heavy.balloon(0, 0), steps[i]);
            due("behind " + (i + 1) + " hours", heavy.balloon(0, 3), i == 8 ? GONE : FLIES);
        }
        RedBalloons odd = over("CW3Ba20");
        odd.hour();
        odd.let(0);
        odd.hour();
        due("in hour 1 it does not go, so it is not gone", odd.balloon(0, 3), FLIES);
        odd.hour();
        due("in hour 2 it is", odd.balloon(0, 3), GONE);
        sentence("(LIGHT ones are CAUGHT where they end alone.)");
        RedBalloons light = letOver("CW1Ba30Hb00Hd00", 1);
        due("over b to c", light.hour(), 0);
        due("over d to e", light.hour(), 0);
        due("at e", light.balloon(0, 0), 4);
        RedBalloons ends = letOver("CW1Ba30Hb00Hc00", 1);
        due("over b, in c", ends.hour(), 1);
        due("in c", ends.balloon(0, 4), 1);
    }

    private static void caughtAndAnswered() {
        sentence("Behind that, one that is at a CELL with a HEDGE is CAUGHT in it, by THE HOUR that it is then");
        RedBalloons x = letOver("CBa00Ba10Ba20Ba30Ba00Ha00", 15);
        due("let, but no hour yet", x.count(8), 0);
        due("hour()", x.hour(), 4);
        due("caught", x.count(8), 15);
        due("held ones are not", x.balloon(4, 3), HELD);
        due("0 late: as soon as it is caught", x.count(10), 15);
        due("hour(): those that are caught are not again", x.hour(), 0);
        due("let(4)", x.let(4), 1);
        due("hour()", x.hour(), 1);
        due("hedge(0, 3)", x.hedge(0, 3), 31);
        sentence("ANSWERED is a BALLOON that is CAUGHT, as soon as THE HOUR is as many more than that by which it was, "
            + "as the HEDGE is late, or more");
        for (int late = 0; late <= 9; late++) {
            RedBalloons y = over("CW1Ba02Hb" + late + "2");
            y.hour();
            y.let(0);
            y.hour();
            for (int more = 0; more <= 10; more++) {
                due(late + " late, " + more + " more", y.balloon(0, 6), more >= late ? 1 : 0);
                due(late + " late, " + more + " more: glad", y.balloon(0, 7), more >= late ? 1 : 0);
                due(late + " late, " + more + " more: comes", y.comes(0), Math.max(0, late - more));
                y.hour();
            }
        }
        sentence("FREED: one that is CAUGHT FLIES again (its answer is nothing); it can be CAUGHT again behind an HOUR.");
        RedBalloons freed = letOver("CBa00Ha10", 1);
        hours(freed, 2);
        due("glad", freed.count(11), 1);
        due("free(0)", freed.free(0), 0);
        due("not glad", freed.count(11), 0);
        due("not answered", freed.count(10), 0);
        due("not caught ahead of the hour", freed.count(8), 0);
        due("hour()", freed.hour(), 1);
        due("1 late anew", freed.count(10), 0);
        freed.hour();
        due("answered anew", freed.count(10), 1);
    }

    private static void putRight() {
        sentence("PUT RIGHT: of two BALLOONS it is exchanged to whom what comes for them goes (ANSWERED or not)");
        RedBalloons x = letOver("CBa01Bt01Ha01", 1);
        due("right(0, 1), neither is answered", x.right(0, 1), 0);
        x.hour();
        due("glad", x.count(11), 2);
        due("right(0, 1), one is answered", x.right(0, 1), 1);
        due("glad", x.count(11), 1);
        due("right(1, 0)", x.right(1, 0), 1);
        due("glad", x.count(11), 2);
        sentence("GLAD is a child that has what it wished for.");
        RedBalloons all = letOver("CBa00Ba00Ba00Ba00Ba00Ha00", 31);
        all.hour();
        due("right(0, 4)", all.right(0, 4), 5);
        due("glad", all.count(11), 31);
        RedBalloons none = letOver("CBa00Ba01Ba02Ba03Ba00Hb00Ha03", 31);
        none.hour();
        due("right(0, 1)", none.right(0, 1), 1);
        due("glad", none.count(11), 8);
        due("right(3, 4)", none.right(3, 4), 1);
        due("by another's balloon", none.count(11), 8);
    }

    // ---- terms: acts

    /** An act as the first of 14 can be undone; of 15 it is forgotten. */
    private static void actIsForgotten(String act, String city, int before, Doing doing) {
        for (int more = 13; more <= 14; more++) {
            RedBalloons x = letOver(city, 1);
            hours(x, before);
            x.keep(0);
            x.again(0);
            String ahead = brief(x);
            doing.on(x);
            String behind = brief(x);
            hours(x, more);
            due(act + " and " + more + " hours", x.count(12), 14);
            for (int left = 13; left >= 0; left--) {
                due(act + " and " + more + " hours: undo()", x.undo(), left);
            }
            due(act + " and " + more + " hours: undo()", x.undo(), STATE);
            same(act + " and " + more + " hours, all undone", brief(x), more == 13 ? ahead : behind);
        }
    }

    private static void acts() {
        sentence("ACTS (LET, HOURS, FREED, PUT RIGHT) are a row (14 at most; of more the first one is forgotten)");
        String city = "CW1Ba00Bb01Hb00";
        actIsForgotten("LET", city, 1, x -> x.let(1));
        actIsForgotten("HOURS", city, 0, x -> x.hour());
        actIsForgotten("FREED", city, 1, x -> x.free(0));
        actIsForgotten("PUT RIGHT", city, 1, x -> x.right(0, 1));
        RedBalloons many = over("C");
        for (int i = 1; i <= 100; i++) {
            many.hour();
            due("acts behind " + i + " hours", many.count(12), Math.min(i, 14));
        }
        sentence("the last one can be undone");
        for (int left = 13; left >= 0; left--) {
            due("undo()", many.undo(), left);
            due("hour", many.count(4), 86 + left);
        }
        due("undo()", many.undo(), STATE);
        due("hour", many.count(4), 86);
        many.hour();
        due("undo() of one", many.undo(), 0);
    }

    // ---- terms: numbers of hours

    // A heavy one by these winds goes in hours 2, 8, 14, 20 alone: it comes to e behind 21.
    private static final String SLOW = "CW0W0W1Ba20He";

    private static RedBalloons slow(String lateAndAnswer, int hoursAgo) {
        RedBalloons x = letOver(SLOW + lateAndAnswer, 1);
        hours(x, hoursAgo);
        return x;
    }

    private static void hoursToCome() {
        sentence("IN n HOURS (0 to 20): the CELL of a BALLOON; what it is then");
        RedBalloons x = slow("00", 1);
        due("later(0, 0, 0)", x.later(0, 0, 0), 0);
        due("later(0, 1, 0)", x.later(0, 1, 0), 0);
        due("later(0, 2, 0)", x.later(0, 2, 0), 1);
        due("later(0, 19, 0)", x.later(0, 19, 0), 3);
        due("later(0, 19, 1)", x.later(0, 19, 1), FLIES);
        due("later(0, 20, 0)", x.later(0, 20, 0), 4);
        due("later(0, 20, 1)", x.later(0, 20, 1), CAUGHT);
        due("later(0, 21, 0)", x.later(0, 21, 0), OUTSIDE);
        due("later(0, -1, 0)", x.later(0, -1, 0), OUTSIDE);
        sentence("COMES: in how many HOURS (0 to 30) a BALLOON is ANSWERED first; NONE");
        due("21 hours and 9 late", slow("90", 0).comes(0), 30);
        due("20 hours and 9 late", slow("90", 1).comes(0), 29);
        due("0 hours and 0 late", slow("00", 21).comes(0), 0);
        due("0 hours and 9 late", slow("90", 21).comes(0), 9);
        due("9 hours ago and 9 late", slow("90", 30).comes(0), 0);
        // Its hours are 4, 10, 16, 22 here: 23 and 8 are 31.
        RedBalloons later = letOver("CW0W1W0Ba20He80", 1);
        due("23 hours and 8 late", later.comes(0), NONE);
        later.hour();
        due("22 hours and 8 late", later.comes(0), 30);
    }

    private static void bestHours() {
        sentence("BEST for a BALLOON that is HELD: in how many HOURS (0 to 12) .. in 20 HOURS behind that or sooner");
        due("21 hours, or 20 of them 1 later", over(SLOW + "00").best(0), 1);
        RedBalloons x = over(SLOW + "00");
        x.hour();
        due("20 hours", x.best(0), 0);
        // Winds and even hours come round in 6, so that 5 is the longest that any wait can be: here
        // hours 0 and 6 lead to b, and in all others it stays at a, in a hedge that is no good.
        RedBalloons longest = over("CW1W0W0Ba20Hb00Ha01");
        due("in hour 0", longest.best(0), 0);
        longest.hour();
        due("in hour 1 for hour 6", longest.best(0), 5);
        hours(longest, 5);
        due("in hour 6", longest.best(0), 0);
        RedBalloons wait = over("CW3W1W3Ba23Hb03");
        hours(wait, 5);
        due("in hour 5 for hour 9", wait.best(0), 4);
        hours(wait, 4);
        due("in hour 9", wait.best(0), 0);
        wait.hour();
        due("in hour 10", wait.best(0), 0);
        wait.hour();
        due("in hour 11", wait.best(0), 4);
        due("never", over("CW3Ba03Hb03").best(0), NONE);
        due("no hedge", over("CW3Ba03").best(0), NONE);
        due("another wish", over("CW0Ba03Ha02").best(0), NONE);
        due("its wish, however late", over("CW0Ba03Ha93").best(0), 0);
        due("in the last hedge of four", over("CW1Ba03Hf03Hg03Hh03Hb03").best(0), 0);
        sentence("of like ones the fewest");
        due("a longer flight is no matter", over("CW0W0W0W1Ba03Hb03").best(0), 0);
    }

    private static void mostHours() {
        sentence("MOST: how many children can be GLAD in 30 HOURS; SHEETS: the fewest such exchanges");
        RedBalloons x = letOver("CW0W1W0Ba20Bt03He83", 1);
        due("31 hours", x.most(0), 0);
        due("31 hours", x.most(1), 0);
        x.hour();
        due("30 hours", x.most(0), 1);
        due("30 hours", x.most(1), 1);
        due("nothing there", new RedBalloons().most(0), 0);
        due("nothing there", new RedBalloons().most(1), 0);
        due("one balloon", letOver("CBa00Ha00", 1).most(0), 1);
        due("one balloon", letOver("CBa00Ha00", 1).most(1), 0);
        RedBalloons all = letOver("CBa01Bb02Bc03Bd00Ba00Ha00Hb01Hc02Hd03", 31);
        due("five children", all.most(0), 5);
        due("three exchanges", all.most(1), 3);
        // 0, 1, 3 and 4 must change places in a round, and whatever is for 2 is its own.
        RedBalloons round = letOver("CBa01Bb02Bd03Bc03Bd00Ha00Hb01Hc02Hd03", 31);
        due("five children", round.most(0), 5);
        due("three exchanges", round.most(1), 3);
        RedBalloons glad = letOver("CBa00Bb01Bc02Bd03Ba00Ha00Hb01Hc02Hd03", 31);
        due("five children", glad.most(0), 5);
        due("no exchange", glad.most(1), 0);
        for (int one = 0; one < 5; one++) {
            for (int other = one + 1; other < 5; other++) {
                glad.right(one, other);
                // Children 0 and 4 wished for the same.
                due("put right " + one + " and " + other, glad.most(1), one == 0 && other == 4 ? 0 : 1);
                glad.right(one, other);
            }
        }
        glad.right(0, 1);
        glad.right(1, 2);
        glad.right(2, 3);
        glad.right(3, 4);
        due("five children still", glad.most(0), 5);
        // 0 and 4 are answered alike, so that one exchange of the four is spared.
        due("three exchanges", glad.most(1), 3);
    }

    private static void judged() {
        sentence("JUDGED: n doings (1 to 4), told as three figures each: the place of the first that can not be; NONE: none");
        RedBalloons x = over("CBa00Ba00Ba00Ba00Ba01Ha00");
        due("judge(1, 0)", x.judge(1, 0), NONE);
        due("judge(4, 0)", x.judge(4, 0), NONE);
        due("judge(0, 0)", x.judge(0, 0), OUTSIDE);
        due("judge(5, 0)", x.judge(5, 0), OUTSIDE);
        due("place 0", x.judge(4, 200000000000L), 0);
        due("place 1", x.judge(4, 200000000L), 1);
        due("place 2", x.judge(4, 200000L), 2);
        due("place 3", x.judge(4, 200L), 3);
        due("none", x.judge(4, 100000200000L), NONE);
        due("let of balloon 4", x.judge(1, 104), NONE);
        due("let of balloon 5", x.judge(1, 105), 0);
        due("let, hour, free of balloon 4", x.judge(3, 104000204L), NONE);
        due("let, hour, free of balloon 5", x.judge(3, 104000205L), 2);
        due("put right 4 and 0", x.judge(1, 340), NONE);
        due("put right 0 and 4", x.judge(1, 304), NONE);
        due("put right 5 and 0", x.judge(1, 350), 0);
        due("put right 0 and 5", x.judge(1, 305), 0);
        due("put right 0 and 0", x.judge(1, 300), 0);
        due("put right 4 and 4", x.judge(1, 344), 0);
        due("let, hour, child 0 is glad", x.judge(3, 100000400L), NONE);
        due("let, hour, child 4 is glad of what it did not wish for", x.judge(3, 104000404L), 2);
        due("let, hour, put right, child 3 is glad", x.judge(4, 104000334403L), NONE);
        due("child 5 is glad", x.judge(1, 405), 0);
        due("figure 5", x.judge(1, 500), 0);
        due("figure 9", x.judge(1, 900), 0);
        due("an hour, and another figure", x.judge(1, 1), 0);
        due("an hour, and another figure", x.judge(1, 10), 0);
        due("let, and another figure", x.judge(1, 110), 0);
        due("child is glad, and another figure", x.judge(3, 100000410L), 2);
        due("free, and another figure", x.judge(3, 100000210L), 2);
        RedBalloons none = new RedBalloons();
        due("hours over nothing", none.judge(4, 0), NONE);
        due("let over nothing", none.judge(1, 100), 0);
        due("free over nothing", none.judge(2, 200), 1);
        due("put right over nothing", none.judge(3, 301), 2);
        due("glad over nothing", none.judge(4, 400), 3);
        sentence("row (0 or more, 3 n figures at most)");
        long thousands = 1;
        for (int n = 1; n <= 4; n++) {
            thousands *= 1000;
            due("judge(" + n + ", the greatest)", x.judge(n, thousands - 1), 0);
            due("judge(" + n + ", 1 more)", x.judge(n, thousands), OUTSIDE);
            due("judge(" + n + ", -1)", x.judge(n, -1), OUTSIDE);
            due("judge(" + n + ", the least long)", x.judge(n, Long.MIN_VALUE), OUTSIDE);
            due("judge(" + n + ", the greatest long)", x.judge(n, Long.MAX_VALUE), OUTSIDE);
        }
    }

    // ---- terms: from where it came

    private static void found() {
        sentence("FOUND: .. at CELL y behind n HOURS (0 to 9): 6 such at most, none at first");
        RedBalloons x = over("CW0W0W1");
        due("lose()", x.lose(), 0);
        due("began(0) of none", x.began(0), ALL_CELLS);
        // It goes in hours 2, 5, 8: three times in nine hours, twice in eight.
        due("find(8, 9)", x.find(8, 9), 1);
        due("began(0)", x.began(0), 1 << 5);
        due("find(7, 8)", x.find(7, 8), 2);
        due("began(0)", x.began(0), 1 << 5);
        due("find(5, 0)", x.find(5, 0), 3);
        due("began(0)", x.began(0), 1 << 5);
        due("find(5, 2)", x.find(5, 2), 4);
        due("find(6, 3)", x.find(6, 3), 5);
        due("began(0)", x.began(0), 1 << 5);
        due("find(6, 2)", x.find(6, 2), 6);
        due("the sixth counts", x.began(0), 0);
        due("a seventh", x.find(6, 2), FULL);
        due("lose()", x.lose(), 6);
        due("find(19, 0)", x.find(19, 0), 1);
        due("began(3)", x.began(3), 1 << 19);
        sentence("BEGAN for a KIND: CELLS (bits) at which it may have been LET (one that is GONE is nowhere)");
        for (int wind = 0; wind < 5; wind++) {
            for (int cell = 0; cell < 20; cell++) {
                beganBehindAnHour(wind, cell);
            }
        }
        RedBalloons gone = over("CW1");
        gone.find(4, 1);
        due("it came to e from d, and did not stay there", gone.began(0), 1 << 3);
        due("light ones came from c", gone.began(3), 1 << 2);
        gone.find(4, 2);
        due("red ones are gone", gone.began(0), 0);
        due("heavy ones go in hour 0 alone", gone.began(2), 1 << 3);
        sentence("LET at a CELL in HOUR 0 (HEDGES set aside)");
        RedBalloons hedged = over("CW1W4Ha00Hb00Hg00");
        hours(hedged, 3);
        hedged.find(6, 2);
        due("whatever hour it is", hedged.began(0), 1);
    }

    private static void beganBehindAnHour(int wind, int cell) {
        RedBalloons x = over("CW" + wind);
        x.find(cell, 1);
        int once = 0;
        int twice = 0;
        for (int from = 0; from < 20; from++) {
            int to = lead(wind, from);
            once |= to == cell ? 1 << from : 0;
            twice |= to != NONE && lead(wind, to) == cell ? 1 << from : 0;
        }
        due("wind " + wind + ", found at " + cell + ": red", x.began(0), once);
        due("wind " + wind + ", found at " + cell + ": straight", x.began(1), once);
        due("wind " + wind + ", found at " + cell + ": heavy", x.began(2), once);
        due("wind " + wind + ", found at " + cell + ": light", x.began(3), twice);
    }

    // ---- terms: shares, rests, chances

    private static void shares() {
        sentence("SHARE of a HEDGE: .. GLAD in 30 HOURS");
        RedBalloons x = letOver("CW0W1W0Ba23He83", 1);
        due("31 hours", x.share(0, true), 0);
        due("31 hours", x.share(0, false), 1);
        x.hour();
        due("30 hours", x.share(0, true), 1);
        due("30 hours", x.share(0, false), 1);
        sentence("of others nobody is CAUGHT; who is CAUGHT in one that has not come is GONE");
        RedBalloons by = letOver("CW1Ba00Hb00Hc00", 1);
        due("ahead of b: c would do", by.share(0, true), 1);
        due("ahead of b: c would do", by.share(0, false), 2);
        by.hour();
        due("in b: all b's", by.share(0, true), 1);
        due("in b: all b's", by.share(0, false), 1);
        due("in b: not c's", by.share(1, true), 0);
        due("in b: not c's", by.share(1, false), 1);
        RedBalloons inLast = letOver("CW1Ba00Hc00Hb00", 1);
        inLast.hour();
        due("in b, told last: all b's", inLast.share(1, true), 1);
        due("in b, told last: all b's", inLast.share(1, false), 1);
        due("in b, told last: not c's", inLast.share(0, true), 0);
        RedBalloons more = letOver("CW1Ba00Hb00", 1);
        due("of one hedge", more.share(0, true), 1);
        more.wipe();
        tell(more, "CW1Ba00Hc00Hb00");
        more.city();
        more.let(0);
        due("of two hedges behind that: in how many hours", more.comes(0), 1);
        due("of two hedges behind that: in the second", more.fails(0, 1, 1, 0, true), 1);
        sentence("if HEDGES come one by one, in each order as likely");
        // g gladdens child 0; child 1 is gladdened by l or by m, and never by n.
        RedBalloons four = letOver("CW1Bf00Bk00Hg00Hl00Hm00Hn01", 3);
        int[] above = {1, 1, 1, 0};
        int[] below = {1, 2, 2, 1};
        for (int h = 0; h < 4; h++) {
            due("share(" + h + ", true)", four.share(h, true), above[h]);
            due("share(" + h + ", false)", four.share(h, false), below[h]);
        }
        // o gladdens if it comes first of all; l, m, n each take that away if they come next.
        RedBalloons way = letOver("CW1Bk00Hl01Hm01Hn01Ho00", 1);
        for (int h = 0; h < 3; h++) {
            due("share(" + h + ", true)", way.share(h, true), -1);
            due("share(" + h + ", false)", way.share(h, false), 12);
        }
        due("share(3, true)", way.share(3, true), 1);
        due("share(3, false)", way.share(3, false), 4);
    }

    private static void rests() {
        sentence("RESTS of two BALLOONS that are HELD: each is LET now (1), or not (0), then 9 HOURS go by");
        due("1 hour and 8 late", over("CW1Ba00Bt01Hb80").rests(0, 1, 1), 10);
        due("1 hour and 9 late", over("CW1Ba00Bt01Hb90").rests(0, 1, 1), 0);
        due("the other, 1 hour and 8 late", over("CW1Ba00Bt01Hb80").rests(1, 0, 1), 1);
        due("both", over("CW1Ba00Bf01Hb00Hg01").rests(0, 1, 1), 11);
        due("both in one hedge: 3 less 1 are more than 1", over("CW1Ba00Ba00Hb00").rests(0, 1, 1), 11);
        due("neither", over("CW1Ba00Ba00").rests(0, 1, 1), 0);
        sentence("pairs in which neither has more by another choice alone: how many");
        RedBalloons cross = over("CW1Ba00Ba00Hb00");
        cross.right(0, 1);
        // Each has 3 by the other's letting go alone, and 1 by its own holding on.
        due("one, though both would have more by both", cross.rests(0, 1, 0), 1);
        due("neither", cross.rests(0, 1, 1), 0);
        due("one", over("CW1Ba00Ba00Hb00").rests(0, 1, 0), 1);
        due("one", over("CW1Ba00Bt01Hb80").rests(0, 1, 0), 1);
        due("one", over("CW1Ba00Ba00").rests(0, 1, 0), 1);
    }

    private static void failing() {
        sentence("FAILS: in each of n HOURS (1 to 6) from now on");
        // It goes in hours 2 and 5.
        RedBalloons x = letOver("CW0W0W1Ba00Hc00", 1);
        due("5 hours above", x.fails(0, 0, 5, 0, true), 0);
        due("5 hours below", x.fails(0, 0, 5, 0, false), 1);
        due("6 hours above", x.fails(0, 0, 6, 0, true), 1);
        due("6 hours below", x.fails(0, 0, 6, 0, false), 1);
        due("7 hours", x.fails(0, 0, 7, 0, true), OUTSIDE);
        due("0 hours", x.fails(0, 0, 0, 0, true), OUTSIDE);
        RedBalloons one = letOver("CW1Ba00Hb00", 1);
        due("1 hour above", one.fails(0, 0, 1, 4, true), 3);
        due("1 hour below", one.fails(0, 0, 1, 4, false), 5);
        sentence("the WIND fails by x tenths (0 to 10), by itself (it is still then)");
        for (int tenths = 0; tenths <= 10; tenths++) {
            int above = one.fails(0, 0, 1, tenths, true);
            int below = one.fails(0, 0, 1, tenths, false);
            due(tenths + " tenths: as a share of 10", 10 * above, (10 - tenths) * below);
        }
        due("0 tenths above", one.fails(0, 0, 6, 0, true), 1);
        due("10 tenths above", one.fails(0, 0, 6, 10, true), 0);
        due("10 tenths below", one.fails(0, 0, 6, 10, false), 1);
        due("11 tenths", one.fails(0, 0, 1, 11, true), OUTSIDE);
        due("-1 tenths", one.fails(0, 0, 1, -1, true), OUTSIDE);
        RedBalloons at = letOver("CW1Ba00Ha00", 1);
        due("still, where a hedge is", at.fails(0, 0, 6, 10, true), 1);
        due("still, where a hedge is", at.fails(0, 0, 6, 10, false), 1);
        due("one wind fails", at.fails(0, 0, 6, 1, true), 1);
        due("one wind fails", at.fails(0, 0, 6, 1, false), 10);
    }

    // ---- terms: years

    private static final BigInteger TWO_TO_64 = BigInteger.ONE.shiftLeft(64);
    private static final BigInteger FACTOR = new BigInteger("6364136223846793005");
    private static final BigInteger ADDEND = new BigInteger("1442695040888963407");

    private static BigInteger unsigned(long v) {
        return BigInteger.valueOf(v).mod(TWO_TO_64);
    }

    private static BigInteger next(BigInteger v) {
        return v.multiply(FACTOR).add(ADDEND).mod(TWO_TO_64);
    }

    private static int drawn(BigInteger v) {
        return v.shiftRight(33).mod(BigInteger.valueOf(24)).intValue();
    }

    private static final int ANY_HOUR = 24;

    /** A seed by which these are drawn, the topmost bit of the first being as told. */
    private static long seedFor(boolean topmost, int... doings) {
        for (long start = 0; start < 50000000L; start++) {
            BigInteger v = next(unsigned(start));
            boolean fits = v.testBit(63) == topmost;
            for (int i = 0; fits && i < doings.length; i++) {
                fits = doings[i] == ANY_HOUR ? drawn(v) >= 13 : drawn(v) == doings[i];
                v = next(v);
            }
            if (fits) {
                return start;
            }
        }
        due("a seed", NONE, 0);
        return 0;
    }

    private static void seeds() {
        sentence("x becomes x times 6364136223846793005 and 1442695040888963407 (64 bits, wrapping)");
        long[] starts = {0, 1, -1, Long.MAX_VALUE, Long.MIN_VALUE, 1L << 32, -(1L << 32), 77};
        for (long start : starts) {
            RedBalloons x = new RedBalloons();
            x.seed(start);
            BigInteger v = unsigned(start);
            for (int i = 0; i < 5; i++) {
                v = next(v);
                due("years(1) over nothing", x.years(1), 0);
                due("seed behind it", x.seed(v.longValue()), v.longValue());
            }
            x.years(30);
            for (int i = 0; i < 30; i++) {
                v = next(v);
            }
            due("seed behind 30", x.seed(5), v.longValue());
            due("what it was", x.seed(6), 5);
        }
        sentence("m times (1 to 30)");
        RedBalloons x = letOver("CBa00Ha00", 1);
        x.hour();
        due("years(-1)", x.years(-1), OUTSIDE);
        due("years(0)", x.years(0), OUTSIDE);
        due("years(31)", x.years(31), OUTSIDE);
        due("the seed stays", x.seed(0), 0);
    }

    private static void drawnDoings() {
        sentence("its upper 31 bits by 24, what is left");
        for (boolean topmost : new boolean[] {false, true}) {
            for (int hour = 13; hour < 24; hour++) {
                RedBalloons x = letOver("CBa00Ha00", 1);
                x.seed(seedFor(topmost, hour));
                due(hour + " is an hour", x.years(1), 1);
            }
            for (int none = 0; none < 13; none++) {
                RedBalloons x = letOver("CBa00Ha00", 1);
                x.seed(seedFor(topmost, none));
                due(none + " is none", x.years(1), 0);
            }
            sentence("0 to 4 that BALLOON is LET, 5 to 9 that less 5 BALLOON is FREED");
            for (int b = 0; b < 5; b++) {
                RedBalloons x = over("CBa00Ba00Ba00Ba00Ba00Ha00");
                x.seed(seedFor(topmost, b, ANY_HOUR, b + 5));
                due("let, hour, free of balloon " + b, x.years(3), 1);
                RedBalloons y = letOver("CBa00Ba00Ba00Ba00Ba00Ha00", 31 - (1 << b));
                y.hour();
                y.seed(seedFor(topmost, b + 5, b));
                due("free of balloon " + b + " that is held, let", y.years(2), 8);
            }
            sentence("10 to 12 BALLOONS that less 10, and 1 more than that, are PUT RIGHT, each if it can be");
            for (int b = 0; b < 3; b++) {
                String balloons = "Bt01".repeat(b) + "Ba01" + "Bt00";
                RedBalloons x = letOver("C" + balloons + "Ha00", 1 << b);
                x.hour();
                x.seed(seedFor(topmost, b + 10));
                due("put right " + b + " and " + (b + 1), x.years(1), 1);
                RedBalloons last = letOver("C" + "Bt01".repeat(b) + "Ba00Ha00", 1 << b);
                last.hour();
                last.seed(seedFor(topmost, b + 10));
                due("put right " + b + " and one that is not", last.years(1), 1);
            }
        }
    }

    private static void yearsChangeTheSeedAlone() {
        sentence("(Nothing changes but THE SEED.)");
        RedBalloons x = busy();
        x.years(30);
        long seed = x.seed(77);
        due("the seed is another", seed == 77 ? 1 : 0, 0);
        same("years(30)", everything(x), everything(busy()));
        leaves(BUSY, "years(31)", OUTSIDE, y -> y.years(31));
        leaves(BUSY, "years(0)", OUTSIDE, y -> y.years(0));
        sentence("how many children are GLAD, each time, together");
        RedBalloons five = letOver("CBa00Ba00Ba00Ba00Ba00Ha00", 31);
        five.hour();
        five.seed(seedFor(false, 0, 10, 12));
        due("five, three times", five.years(3), 15);
    }

    // ---- terms: slots

    private static void slots() {
        sentence("SLOTS 0 to 1 keep where all are, what they are, SHEETS, THE HOUR");
        RedBalloons x = letOver("CW1Ba00Bd10Hb20", 3);
        due("keep(0)", x.keep(0), 0);
        String first = brief(x);
        x.hour();
        x.right(0, 1);
        due("keep(1)", x.keep(1), 1);
        String second = brief(x);
        hours(x, 3);
        x.free(0);
        x.hour();
        due("again(0)", x.again(0), 0);
        same("again(0)", brief(x), first);
        due("again(1)", x.again(1), 1);
        same("again(1)", brief(x), second);
        due("again(1): it is still kept", x.again(1), 1);
        x.hour();
        due("1 of 2 late", x.count(10), 0);
        x.hour();
        due("2 of 2 late", x.count(10), 1);
        sentence("(THE ROW of ACTS is empty when one goes on)");
        RedBalloons y = over("CBa00");
        hours(y, 14);
        due("keep(1)", y.keep(1), 14);
        due("acts are still there", y.count(12), 14);
        due("again(1)", y.again(1), 14);
        due("none now", y.count(12), 0);
        due("undo()", y.undo(), STATE);
        sentence("They are kept: THE HOUR. (over nothing)");
        RedBalloons z = new RedBalloons();
        due("again(0)", z.again(0), STATE);
        due("keep(0)", z.keep(0), 0);
        z.hour();
        due("again(1)", z.again(1), STATE);
        due("hour", z.count(4), 1);
        due("again(0)", z.again(0), 0);
        due("hour", z.count(4), 0);
    }

    // ---- promises: what each call refuses, and that it changes nothing

    private static void refusalsOfTheCity() {
        sentence("Promise 2: A letter (0 to 255) .. OUTSIDE; FULL: there are 48.");
        int[] letters = {-1, 256, LEAST, GREATEST, 67 + 256, 67 - 256};
        for (int letter : letters) {
            refused("write(" + letter + ")", OUTSIDE, x -> x.write(letter));
            refusedOverNothing("write(" + letter + ")", OUTSIDE, x -> x.write(letter));
        }
        refused("write('C')", FULL, x -> x.write('C'));
        refused("write(0)", FULL, x -> x.write(0));
        refused("write(255)", FULL, x -> x.write(255));
        RedBalloons x = new RedBalloons();
        for (int i = 1; i <= 48; i++) {
            due("letter " + i, x.write(i % 2 == 0 ? 0 : 255), i);
        }
        due("letter 49", x.write(0), FULL);
        due("count(0)", x.count(0), 48);
        RedBalloons amid = texted("CW");
        amid.write(256);
        amid.write(-1);
        amid.write('3');
        due("what is refused is no letter", amid.city(), 100);
        due("its wind", amid.count(5), 3);
        sentence("Promise 3: THE TEXT is empty: how long it was.");
        due("wipe() of 48", x.wipe(), 48);
        due("wipe() of none", x.wipe(), 0);
        due("write('C')", x.write('C'), 1);
        due("fault()", x.fault(), NONE);
        due("wipe() of one", x.wipe(), 1);
        sentence("Promise 5: STATE: a FAULT.");
        refused("city()", STATE, y -> y.city());
        refusedOverNothing("city()", STATE, y -> y.city());
        RedBalloons kept = busy();
        kept.wipe();
        tell(kept, "CW1B");
        due("city() that is not at its end", kept.city(), STATE);
        due("what was kept stays", kept.again(0), 1);
    }

    private static void cityMadeAnew() {
        sentence("Promise 5: (THE ROW of ACTS is empty, what was kept is gone; FOUND, THE SEED stay)");
        RedBalloons x = busy();
        x.keep(1);
        x.wipe();
        tell(x, "CW1");
        due("city()", x.city(), 100);
        due("acts", x.count(12), 0);
        due("undo()", x.undo(), STATE);
        due("again(0)", x.again(0), STATE);
        due("again(1)", x.again(1), STATE);
        due("found", x.count(13), 6);
        due("found is full still", x.find(0, 0), FULL);
        due("seed", x.seed(0), 77);
        due("no balloon", x.balloon(0, 0), UNKNOWN);
        due("no hedge", x.hedge(0, 0), UNKNOWN);
        due("the text stays", x.count(0), 3);
        due("city() again", x.city(), 100);
    }

    private static void refusalsOfQuestions() {
        sentence("Promise 6: balloon: UNKNOWN; OUTSIDE.");
        int[] noBalloons = {-1, 5, LEAST, GREATEST};
        for (int b : noBalloons) {
            refused("balloon(" + b + ", 0)", UNKNOWN, x -> x.balloon(b, 0));
            refused("balloon(" + b + ", 7)", UNKNOWN, x -> x.balloon(b, 7));
        }
        for (int what : new int[] {-1, 8, LEAST, GREATEST}) {
            refused("balloon(0, " + what + ")", OUTSIDE, x -> x.balloon(0, what));
            refused("balloon(4, " + what + ")", OUTSIDE, x -> x.balloon(4, what));
        }
        refusedOverNothing("balloon(0, 0)", UNKNOWN, x -> x.balloon(0, 0));
        int[] last = {16, 2, 2, CAUGHT, 1, 2, 1, 0};
        for (int what = 0; what < 8; what++) {
            due("balloon(4, " + what + ")", busy().balloon(4, what), last[what]);
        }
        sentence("Promise 7: hedge: UNKNOWN; OUTSIDE.");
        for (int h : new int[] {-1, 4, LEAST, GREATEST}) {
            refused("hedge(" + h + ", 0)", UNKNOWN, x -> x.hedge(h, 0));
            refused("hedge(" + h + ", 3)", UNKNOWN, x -> x.hedge(h, 3));
        }
        for (int what : new int[] {-1, 4, LEAST, GREATEST}) {
            refused("hedge(0, " + what + ")", OUTSIDE, x -> x.hedge(0, what));
            refused("hedge(3, " + what + ")", OUTSIDE, x -> x.hedge(3, what));
        }
        refusedOverNothing("hedge(0, 0)", UNKNOWN, x -> x.hedge(0, 0));
        int[] lastHedge = {18, 1, 1, 0};
        int[] firstHedge = {11, 0, 1, 4};
        for (int what = 0; what < 4; what++) {
            due("hedge(3, " + what + ")", busy().hedge(3, what), lastHedge[what]);
            due("hedge(0, " + what + ")", busy().hedge(0, what), firstHedge[what]);
        }
        sentence("Promise 28: count: OUTSIDE.");
        for (int what : new int[] {-1, 14, LEAST, GREATEST}) {
            refused("count(" + what + ")", OUTSIDE, x -> x.count(what));
            refusedOverNothing("count(" + what + ")", OUTSIDE, x -> x.count(what));
        }
        due("count(0)", busy().count(0), 48);
        due("count(13)", busy().count(13), 6);
    }

    private static void refusalsOfActs() {
        int[] noBalloons = {-1, 5, LEAST, GREATEST};
        sentence("Promise 8: let: UNKNOWN; STATE: it is not HELD.");
        for (int b : noBalloons) {
            refused("let(" + b + ")", UNKNOWN, x -> x.let(b));
        }
        refused("let(1) that flies", STATE, x -> x.let(1));
        refused("let(2) that is caught", STATE, x -> x.let(2));
        refused("let(3) that is gone", STATE, x -> x.let(3));
        due("let(0) that is held", busy().let(0), 2);
        RedBalloons five = over("CBa00Ba00Ba00Ba00Ba00");
        for (int b = 4; b >= 0; b--) {
            due("let(" + b + ")", five.let(b), 5 - b);
        }
        sentence("Promise 9: hour: how many are CAUGHT in it (over nothing, and all of them)");
        due("hour() over nothing", new RedBalloons().hour(), 0);
        due("hour() of five", letOver("CBa00Ba00Ba00Ba00Ba00Ha00", 31).hour(), 5);
        sentence("Promise 10: free: UNKNOWN; STATE: it is not CAUGHT.");
        for (int b : noBalloons) {
            refused("free(" + b + ")", UNKNOWN, x -> x.free(b));
        }
        refused("free(0) that is held", STATE, x -> x.free(0));
        refused("free(1) that flies", STATE, x -> x.free(1));
        refused("free(3) that is gone", STATE, x -> x.free(3));
        due("free(2) that is caught", busy().free(2), 0);
        due("free(4) that is caught", busy().free(4), 1);
        sentence("Promise 11: right: UNKNOWN: both; OUTSIDE: both are one.");
        for (int b : noBalloons) {
            refused("right(" + b + ", 0)", UNKNOWN, x -> x.right(b, 0));
            refused("right(0, " + b + ")", UNKNOWN, x -> x.right(0, b));
            refused("right(" + b + ", " + b + ")", UNKNOWN, x -> x.right(b, b));
        }
        for (int b = 0; b < 5; b++) {
            int one = b;
            refused("right(" + b + ", " + b + ")", OUTSIDE, x -> x.right(one, one));
        }
        sentence("Promise 12: undo: STATE: there is none.");
        refusedOverNothing("undo()", STATE, x -> x.undo());
        due("undo() of 14", busy().undo(), 13);
    }

    private static void refusalsOfHoursToCome() {
        int[] noBalloons = {-1, 5, LEAST, GREATEST};
        sentence("Promise 13: later: UNKNOWN; OUTSIDE: n, what.");
        for (int b : noBalloons) {
            refused("later(" + b + ", 0, 0)", UNKNOWN, x -> x.later(b, 0, 0));
            refused("later(" + b + ", 20, 1)", UNKNOWN, x -> x.later(b, 20, 1));
        }
        for (int n : new int[] {-1, 21, LEAST, GREATEST}) {
            refused("later(1, " + n + ", 0)", OUTSIDE, x -> x.later(1, n, 0));
        }
        for (int what : new int[] {-1, 2, LEAST, GREATEST}) {
            refused("later(1, 0, " + what + ")", OUTSIDE, x -> x.later(1, 0, what));
        }
        leaves(BUSY, "later(1, 20, 0)", 1, x -> x.later(1, 20, 0));
        leaves(BUSY, "later(3, 20, 1)", GONE, x -> x.later(3, 20, 1));
        sentence("Promise 14: comes: NONE. UNKNOWN.");
        for (int b : noBalloons) {
            refused("comes(" + b + ")", UNKNOWN, x -> x.comes(b));
        }
        leaves(BUSY, "comes(0) that is held", NONE, x -> x.comes(0));
        leaves(BUSY, "comes(1) that flies to and fro", NONE, x -> x.comes(1));
        leaves(BUSY, "comes(3) that is gone", NONE, x -> x.comes(3));
        leaves(BUSY, "comes(4)", 0, x -> x.comes(4));
        sentence("Promise 15: best: NONE. UNKNOWN; STATE: it is not HELD.");
        for (int b : noBalloons) {
            refused("best(" + b + ")", UNKNOWN, x -> x.best(b));
        }
        refused("best(1) that flies", STATE, x -> x.best(1));
        refused("best(2) that is caught", STATE, x -> x.best(2));
        refused("best(3) that is gone", STATE, x -> x.best(3));
        leaves(BUSY, "best(0)", NONE, x -> x.best(0));
        sentence("Promise 16: most: OUTSIDE.");
        for (int what : new int[] {-1, 2, LEAST, GREATEST}) {
            refused("most(" + what + ")", OUTSIDE, x -> x.most(what));
            refusedOverNothing("most(" + what + ")", OUTSIDE, x -> x.most(what));
        }
        leaves(BUSY, "most(0)", 2, x -> x.most(0));
        sentence("Promise 17: judge: OUTSIDE: n, row.");
        for (int n : new int[] {0, 5, -1, LEAST, GREATEST}) {
            refused("judge(" + n + ", 0)", OUTSIDE, x -> x.judge(n, 0));
        }
        for (long row : new long[] {-1, 1000, Long.MIN_VALUE, Long.MAX_VALUE}) {
            refused("judge(1, " + row + ")", OUTSIDE, x -> x.judge(1, row));
        }
        refused("judge(4, 10 to the 12)", OUTSIDE, x -> x.judge(4, 1000000000000L));
        leaves(BUSY, "let, put right, free, hour", NONE, x -> x.judge(4, 100301202000L));
    }

    private static void refusalsOfFindings() {
        sentence("Promise 18: find: UNKNOWN: cell; OUTSIDE: n; FULL: 6.");
        for (int cell : new int[] {-1, 20, LEAST, GREATEST}) {
            refused("find(" + cell + ", 0)", UNKNOWN, x -> x.find(cell, 0));
            refusedOverNothing("find(" + cell + ", 0)", UNKNOWN, x -> x.find(cell, 0));
        }
        for (int n : new int[] {-1, 10, LEAST, GREATEST}) {
            refused("find(0, " + n + ")", OUTSIDE, x -> x.find(0, n));
            refusedOverNothing("find(0, " + n + ")", OUTSIDE, x -> x.find(0, n));
        }
        refused("find(0, 0)", FULL, x -> x.find(0, 0));
        refused("find(19, 9)", FULL, x -> x.find(19, 9));
        RedBalloons x = new RedBalloons();
        int[] cells = {0, 19, 0, 19, 10, 10};
        for (int i = 0; i < 6; i++) {
            due("find " + (i + 1), x.find(cells[i], i % 2 == 0 ? 0 : 9), i + 1);
        }
        due("find 7", x.find(0, 0), FULL);
        sentence("Promise 19: Nothing is FOUND: how much there was.");
        due("lose() of 6", x.lose(), 6);
        due("lose() of none", x.lose(), 0);
        due("count(13)", x.count(13), 0);
        due("find 1", x.find(0, 0), 1);
        due("lose() of one", x.lose(), 1);
        sentence("Promise 20: began: OUTSIDE: kind.");
        for (int kind : new int[] {-1, 4, LEAST, GREATEST}) {
            refused("began(" + kind + ")", OUTSIDE, y -> y.began(kind));
            refusedOverNothing("began(" + kind + ")", OUTSIDE, y -> y.began(kind));
        }
        for (int kind = 0; kind < 4; kind++) {
            due("began(" + kind + ") of none", new RedBalloons().began(kind), ALL_CELLS);
        }
    }

    private static void refusalsOfChances() {
        int[] noBalloons = {-1, 5, LEAST, GREATEST};
        sentence("Promise 21: share: UNKNOWN.");
        for (int h : new int[] {-1, 4, LEAST, GREATEST}) {
            refused("share(" + h + ")", UNKNOWN, x -> x.share(h, true));
        }
        refusedOverNothing("share(0)", UNKNOWN, x -> x.share(0, true));
        leaves(BUSY, "share(3)", 0, x -> x.share(3, true));
        leaves(BUSY, "share(0)", 1, x -> x.share(0, false));
        sentence("Promise 22: rests: UNKNOWN: both; OUTSIDE: both are one, what; STATE: one is not HELD.");
        for (int b : noBalloons) {
            refused("rests(" + b + ", 0, 0)", UNKNOWN, x -> x.rests(b, 0, 0));
            refused("rests(0, " + b + ", 0)", UNKNOWN, x -> x.rests(0, b, 0));
        }
        refused("rests(0, 0, 0)", OUTSIDE, x -> x.rests(0, 0, 0));
        refused("rests(4, 4, 1)", OUTSIDE, x -> x.rests(4, 4, 1));
        for (int what : new int[] {-1, 2, LEAST, GREATEST}) {
            refused("rests(0, 4, " + what + ")", OUTSIDE, x -> x.rests(0, 4, what));
        }
        for (int b = 1; b < 5; b++) {
            int other = b;
            refused("rests(0, " + b + ", 0)", STATE, x -> x.rests(0, other, 0));
            refused("rests(" + b + ", 0, 1)", STATE, x -> x.rests(other, 0, 1));
        }
        RedBalloons held = over("CBa00Ba00Ba00Ba00Ba00");
        due("rests(0, 4, 0)", held.rests(0, 4, 0), 1);
        due("rests(4, 0, 1)", held.rests(4, 0, 1), 0);
        due("they are held still", held.count(6), 31);
        sentence("Promise 23: fails: UNKNOWN: both; OUTSIDE: n, x.");
        for (int b : noBalloons) {
            refused("fails(" + b + ", 0, 1, 0)", UNKNOWN, x -> x.fails(b, 0, 1, 0, true));
        }
        for (int h : new int[] {-1, 4, LEAST, GREATEST}) {
            refused("fails(0, " + h + ", 1, 0)", UNKNOWN, x -> x.fails(0, h, 1, 0, true));
        }
        for (int n : new int[] {0, 7, -1, LEAST, GREATEST}) {
            refused("fails(0, 0, " + n + ", 0)", OUTSIDE, x -> x.fails(0, 0, n, 0, true));
        }
        for (int tenths : new int[] {-1, 11, LEAST, GREATEST}) {
            refused("fails(0, 0, 1, " + tenths + ")", OUTSIDE, x -> x.fails(0, 0, 1, tenths, true));
        }
        leaves(BUSY, "fails(4, 1, 6, 10)", 1, x -> x.fails(4, 1, 6, 10, true));
        leaves(BUSY, "fails(4, 3, 1, 0)", 0, x -> x.fails(4, 3, 1, 0, true));
        sentence("Promise 25: years: OUTSIDE: m.");
        for (int m : new int[] {0, 31, -1, LEAST, GREATEST}) {
            refused("years(" + m + ")", OUTSIDE, x -> x.years(m));
            refusedOverNothing("years(" + m + ")", OUTSIDE, x -> x.years(m));
        }
        sentence("Promise 24: THE SEED is v: what it was.");
        RedBalloons x = new RedBalloons();
        long[] seeds = {0, Long.MAX_VALUE, Long.MIN_VALUE, -1, 1L << 32};
        for (int i = 0; i + 1 < seeds.length; i++) {
            due("seed(" + seeds[i + 1] + ")", x.seed(seeds[i + 1]), seeds[i]);
        }
    }

    private static void refusalsOfSlots() {
        sentence("Promise 26: keep: UNKNOWN.");
        for (int slot : new int[] {-1, 2, LEAST, GREATEST}) {
            refused("keep(" + slot + ")", UNKNOWN, x -> x.keep(slot));
            refusedOverNothing("keep(" + slot + ")", UNKNOWN, x -> x.keep(slot));
        }
        due("keep(0)", busy().keep(0), 6);
        due("keep(1)", busy().keep(1), 6);
        sentence("Promise 27: again: UNKNOWN; STATE: none were kept.");
        for (int slot : new int[] {-1, 2, LEAST, GREATEST}) {
            refused("again(" + slot + ")", UNKNOWN, x -> x.again(slot));
            refusedOverNothing("again(" + slot + ")", UNKNOWN, x -> x.again(slot));
        }
        refused("again(1)", STATE, x -> x.again(1));
        refusedOverNothing("again(0)", STATE, x -> x.again(0));
        refusedOverNothing("again(1)", STATE, x -> x.again(1));
    }

    private static void constants() {
        sentence("UNKNOWN = -1, OUTSIDE = -2, STATE = -3, FULL = -4, NONE = -9");
        due("UNKNOWN", RedBalloons.UNKNOWN, UNKNOWN);
        due("OUTSIDE", RedBalloons.OUTSIDE, OUTSIDE);
        due("STATE", RedBalloons.STATE, STATE);
        due("FULL", RedBalloons.FULL, FULL);
        due("NONE", RedBalloons.NONE, NONE);
    }

    private static void terms() {
        constants();
        busyIsAsTold();
        firstRefusalThatACallNames();
        fractions();
        refusalsOfFractions();
        lettersOfACity();
        asManyParts();
        faults();
        atFirst();
        endsOfRows();
        windsComeRound();
        hoursOfKinds();
        caughtAndAnswered();
        putRight();
        acts();
        hoursToCome();
        bestHours();
        mostHours();
        judged();
        found();
        shares();
        rests();
        failing();
        seeds();
        drawnDoings();
        yearsChangeTheSeedAlone();
        slots();
    }

    private static void promises() {
        refusalsOfTheCity();
        cityMadeAnew();
        refusalsOfQuestions();
        refusalsOfActs();
        refusalsOfHoursToCome();
        refusalsOfFindings();
        refusalsOfChances();
        refusalsOfSlots();
    }

    public static void main(String[] args) {
        terms();
        promises();
        System.out.println(wrong == 0
            ? sentences + " sentences, all " + asked + " answers are as due"
            : wrong + " answers are not as due");
        if (wrong != 0) {
            System.exit(1);
        }
    }
}
