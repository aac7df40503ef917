/** Each promise of the document with answers worked out by hand: ordinary inputs, edges, wrong inputs. */
public final class PromisesTest {
    private static final int UNKNOWN = -1, OUTSIDE = -2, STATE = -3, FULL = -4, NONE = -9;
    private static final int HELD = 0, FLIES = 1, CAUGHT = 2, GONE = 3;

    private static int wrong = 0;
    private static int asked = 0;
    private static int promise = 0;

    private static void due(String call, long got, long want) {
        asked++;
        if (got != want) {
            wrong++;
            System.out.println("promise " + promise + ": " + call + " answered " + got + ", due is " + want);
        }
    }

    private static void tell(RedBalloons x, String text) {
        x.wipe();
        for (int i = 0; i < text.length(); i++) {
            x.write(text.charAt(i));
        }
    }

    private static RedBalloons over(String text) {
        RedBalloons x = new RedBalloons();
        tell(x, text);
        if (x.city() < 0) {
            due("city of " + text, STATE, 0);
        }
        return x;
    }

    private static void hours(RedBalloons x, int n) {
        for (int i = 0; i < n; i++) {
            x.hour();
        }
    }

    /** All that can be asked of the sky without changing it, as one text. */
    private static String all(RedBalloons x) {
        StringBuilder s = new StringBuilder();
        for (int what = 0; what < 14; what++) {
            s.append(x.count(what)).append(' ');
        }
        int balloons = x.count(2);
        for (int b = 0; b < balloons; b++) {
            for (int what = 0; what < 8; what++) {
                s.append(x.balloon(b, what)).append(' ');
            }
        }
        int hedges = x.count(3);
        for (int h = 0; h < hedges; h++) {
            for (int what = 0; what < 4; what++) {
                s.append(x.hedge(h, what)).append(' ');
            }
        }
        long seed = x.seed(0);
        x.seed(seed);
        return s.append(x.fault()).append(' ').append(seed).toString();
    }

    private static void same(String call, String got, String want) {
        asked++;
        if (!got.equals(want)) {
            wrong++;
            System.out.println("promise " + promise + ": " + call + ": the sky is\n  " + got + "\nand was\n  " + want);
        }
    }

    private static void newObject() {
        RedBalloons x = new RedBalloons();
        for (int what = 0; what < 14; what++) {
            due("count(" + what + ")", x.count(what), 0);
        }
        due("fault()", x.fault(), 0);
        due("balloon(0, 0)", x.balloon(0, 0), UNKNOWN);
        due("hedge(0, 0)", x.hedge(0, 0), UNKNOWN);
        due("undo()", x.undo(), STATE);
        due("again(0)", x.again(0), STATE);
        due("again(1)", x.again(1), STATE);
        due("seed(7)", x.seed(7), 0);
        due("began(0)", x.began(0), (1 << 20) - 1);
        due("hour()", x.hour(), 0);
        due("count(4)", x.count(4), 1);
        due("a second object's hour", new RedBalloons().count(4), 0);
    }

    private static void write() {
        RedBalloons x = new RedBalloons();
        due("write(-1)", x.write(-1), OUTSIDE);
        due("write(256)", x.write(256), OUTSIDE);
        due("write(min)", x.write(Integer.MIN_VALUE), OUTSIDE);
        due("write(max)", x.write(Integer.MAX_VALUE), OUTSIDE);
        due("count(0)", x.count(0), 0);
        due("write(0)", x.write(0), 1);
        due("write(255)", x.write(255), 2);
        for (int i = 3; i <= 48; i++) {
            due("letter " + i, x.write('W'), i);
        }
        due("the 49th", x.write('W'), FULL);
        due("the 49th, outside", x.write(256), OUTSIDE);
        due("count(0)", x.count(0), 48);
        due("fault()", x.fault(), 0);
    }

    private static void wipe() {
        RedBalloons x = over("CW1");
        due("wipe()", x.wipe(), 3);
        due("wipe()", x.wipe(), 0);
        due("count(0)", x.count(0), 0);
        due("winds stay", x.count(1), 1);
        for (int i = 0; i < 48; i++) {
            x.write('a');
        }
        due("wipe()", x.wipe(), 48);
        due("write('C')", x.write('C'), 1);
        due("fault()", x.fault(), NONE);
    }

    private static void faultOf(String text, int want) {
        RedBalloons x = new RedBalloons();
        tell(x, text);
        due("fault() of " + text, x.fault(), want);
    }

    private static void fault() {
        faultOf("", 0);
        faultOf("c", 0);
        faultOf("W", 0);
        faultOf("C", NONE);
        faultOf("CC", 1);
        faultOf("CW", 2);
        faultOf("CW0", NONE);
        faultOf("CW4", NONE);
        faultOf("CW5", 2);
        faultOf("CW/", 2);
        faultOf("Cw", 1);
        faultOf("CB", 2);
        faultOf("CBa", 3);
        faultOf("CBa0", 4);
        faultOf("CBa00", NONE);
        faultOf("CBt33", NONE);
        faultOf("CBu", 2);
        faultOf("CB`", 2);
        faultOf("CBA", 2);
        faultOf("CBa4", 3);
        faultOf("CBa/", 3);
        faultOf("CBa04", 4);
        faultOf("CBa0/", 4);
        faultOf("CH", 2);
        faultOf("CHa", 3);
        faultOf("CHa9", 4);
        faultOf("CHa93", NONE);
        faultOf("CHt00", NONE);
        faultOf("CHu", 2);
        faultOf("CH`", 2);
        faultOf("CHa:", 3);
        faultOf("CHa/", 3);
        faultOf("CHa04", 4);
        faultOf("CHa0/", 4);
        faultOf("CHa00Ha", 6);
        faultOf("CHa00Hb00Ha", 10);
        faultOf("CHa00Hb", 7);
        faultOf("CBa00Ba00", NONE);
        faultOf("CBa00Ha00", NONE);
        faultOf("CW0W0W0W0", NONE);
        faultOf("CW0W0W0W0W", 9);
        faultOf("CBa00Ba00Ba00Ba00Ba00", NONE);
        faultOf("CBa00Ba00Ba00Ba00Ba00B", 21);
        faultOf("CHa00Hb00Hc00Hd00", NONE);
        faultOf("CHa00Hb00Hc00Hd00H", 17);
        faultOf("CW0W0W0W0Ba00Ba00Ba00Ba00Ba00Ha00Hb00Hc00Hd00", NONE);
        faultOf("CW0W0W0W0Ba00Ba00Ba00Ba00Ba00Ha00Hb00Hc00Hd00X", 45);
        faultOf("CW0W0W0Ba00Ba00Ba00Ba00Ba00Ha00Hb00Hc00Hd00W", 44);
        faultOf("CW0\u0000", 3);
        faultOf("CW0\u0001", 3);
        faultOf("X" + "CW0", 0);
        RedBalloons x = new RedBalloons();
        tell(x, "CW5");
        due("fault()", x.fault(), 2);
        due("fault() again", x.fault(), 2);
        due("count(1)", x.count(1), 0);
    }

    private static void city() {
        RedBalloons x = new RedBalloons();
        due("city() of nothing", x.city(), STATE);
        tell(x, "CW1W2Ba01Bb12Bc23Hd30");
        due("city()", x.city(), 231);
        due("the text stays", x.count(0), 21);
        x.let(0);
        x.hour();
        x.right(0, 1);
        x.find(3, 3);
        x.seed(99);
        x.keep(0);
        x.keep(1);
        tell(x, "CW1W2Ba01Bb12Bc23Hd3");
        String was = all(x);
        due("city() with a fault", x.city(), STATE);
        same("city() with a fault", all(x), was);
        due("what was kept stays", x.again(1), 1);
        x.hour();
        tell(x, "CW1W2Ba01Bb12Bc23Hd30");
        due("city() anew", x.city(), 231);
        due("hour", x.count(4), 0);
        due("held", x.count(6), 7);
        due("cell", x.balloon(0, 0), 0);
        due("child", x.balloon(0, 5), 0);
        due("acts", x.count(12), 0);
        due("undo()", x.undo(), STATE);
        due("again(0)", x.again(0), STATE);
        due("again(1)", x.again(1), STATE);
        due("found", x.count(13), 1);
        due("seed", x.seed(0), 99);
        tell(x, "C");
        due("city() of C", x.city(), 0);
        due("balloons", x.count(2), 0);
        due("balloon(0, 0)", x.balloon(0, 0), UNKNOWN);
        due("full city", over("CW0W0W0W0Ba00Ba00Ba00Ba00Ba00Ha00Hb00Hc00Hd00").city(), 454);
        RedBalloons straight = over("CW1W3Bf10");
        straight.let(0);
        straight.hour();
        straight.city();
        straight.hour();
        straight.let(0);
        straight.hour();
        due("a straight one forgets its wind with the city", straight.balloon(0, 0), 0);
    }

    private static void balloon() {
        RedBalloons x = over("CW1Ba01Bc10Be20Hb21He03");
        due("cell", x.balloon(0, 0), 0);
        due("cell", x.balloon(1, 0), 2);
        due("kind", x.balloon(1, 1), 1);
        due("kind", x.balloon(2, 1), 2);
        due("wish", x.balloon(0, 2), 1);
        due("held", x.balloon(0, 3), HELD);
        due("no hedge", x.balloon(0, 4), NONE);
        due("own child", x.balloon(2, 5), 2);
        due("not answered", x.balloon(0, 6), 0);
        due("not glad", x.balloon(0, 7), 0);
        due("no balloon", x.balloon(3, 0), UNKNOWN);
        due("no balloon, no such question", x.balloon(-1, 8), UNKNOWN);
        due("no such question", x.balloon(0, 8), OUTSIDE);
        due("no such question", x.balloon(0, -1), OUTSIDE);
        x.let(0);
        x.let(1);
        x.let(2);
        due("flies", x.balloon(0, 3), FLIES);
        x.hour();
        due("caught", x.balloon(0, 3), CAUGHT);
        due("its hedge", x.balloon(0, 4), 0);
        due("its cell", x.balloon(0, 0), 1);
        due("gone, at its last cell", x.balloon(2, 0), 4);
        due("gone", x.balloon(2, 3), GONE);
        due("gone, though a hedge is there", x.balloon(2, 4), NONE);
        x.hour();
        due("2 late: 1 behind", x.balloon(0, 6), 0);
        x.hour();
        due("2 late: 2 behind", x.balloon(0, 6), 1);
        due("glad", x.balloon(0, 7), 1);
        due("not glad by another's", x.balloon(1, 7), 0);
        x.right(0, 1);
        due("sheet", x.balloon(0, 5), 1);
        due("sheet", x.balloon(1, 5), 0);
        due("answered still", x.balloon(0, 6), 1);
        due("glad no more", x.balloon(0, 7), 0);
        due("the other wished for something else", x.balloon(1, 7), 0);
    }

    private static void hedge() {
        RedBalloons x = over("CBa00Bt00Ba00Ha53Ht90");
        due("cell", x.hedge(0, 0), 0);
        due("cell", x.hedge(1, 0), 19);
        due("late", x.hedge(0, 1), 5);
        due("late", x.hedge(1, 1), 9);
        due("answer", x.hedge(0, 2), 3);
        due("answer", x.hedge(1, 2), 0);
        due("caught", x.hedge(0, 3), 0);
        x.let(0);
        x.let(2);
        due("caught only behind an hour", x.hedge(0, 3), 0);
        x.hour();
        due("caught", x.hedge(0, 3), 5);
        due("caught", x.hedge(1, 3), 0);
        x.free(2);
        due("caught", x.hedge(0, 3), 1);
        due("none", x.hedge(2, 0), UNKNOWN);
        due("none", x.hedge(-1, 9), UNKNOWN);
        due("no such question", x.hedge(0, 4), OUTSIDE);
        due("no such question", x.hedge(0, -1), OUTSIDE);
    }

    private static void let() {
        RedBalloons x = over("CW1Ba00Bb00Bc00Hd00");
        due("let(2)", x.let(2), 1);
        due("let(0)", x.let(0), 2);
        String was = all(x);
        due("let(0) that flies", x.let(0), STATE);
        due("let(3)", x.let(3), UNKNOWN);
        due("let(-1)", x.let(-1), UNKNOWN);
        same("what is refused", all(x), was);
        x.hour();
        due("let(2) that is caught", x.let(2), STATE);
        due("let(1)", x.let(1), 2);
        hours(x, 9);
        due("let(0) that is caught or gone", x.let(0), STATE);
        due("acts", x.count(12), 13);
    }

    private static void hour() {
        RedBalloons x = over("CW1W4W0W2Ba00Bs00Hg00");
        x.let(0);
        due("east", x.hour(), 0);
        due("cell", x.balloon(0, 0), 1);
        due("hour", x.count(4), 1);
        due("south, into the hedge", x.hour(), 1);
        due("cell", x.balloon(0, 0), 6);
        due("still", x.hour(), 0);
        due("caught ones stay", x.balloon(0, 0), 6);
        x.hour();
        due("held ones stay", x.balloon(1, 0), 18);
        due("winds begin again", x.count(5), 1);
        edges();
        kinds();
    }

    private static void edges() {
        String[] cities = {"CW1Be00", "CW1Bj00", "CW2Ba00", "CW2Bf00", "CW3Ba00", "CW3Be00", "CW4Bp00", "CW4Bt00"};
        for (String told : cities) {
            RedBalloons x = over(told);
            int cell = x.balloon(0, 0);
            x.let(0);
            due("hour over " + told, x.hour(), 0);
            due("gone from " + told, x.balloon(0, 3), GONE);
            due("last at " + told, x.balloon(0, 0), cell);
            x.hour();
            due("gone for good " + told, x.balloon(0, 3), GONE);
        }
        String[] within = {"CW1Bd00", "CW2Bg00", "CW3Bf00", "CW4Bo00", "CW0Ba00"};
        int[] ends = {4, 5, 0, 19, 0};
        for (int i = 0; i < within.length; i++) {
            RedBalloons x = over(within[i]);
            x.let(0);
            x.hour();
            due("flies over " + within[i], x.balloon(0, 3), FLIES);
            due("cell over " + within[i], x.balloon(0, 0), ends[i]);
        }
    }

    private static void kinds() {
        RedBalloons straight = over("CW0W1W4Ba10");
        straight.let(0);
        straight.hour();
        due("straight, still at first", straight.balloon(0, 0), 0);
        straight.hour();
        due("straight, its wind", straight.balloon(0, 0), 1);
        straight.hour();
        due("straight, by its own wind", straight.balloon(0, 0), 2);
        straight.hour();
        due("straight, though it is still", straight.balloon(0, 0), 3);
        RedBalloons freed = over("CW1W4Ba10Hb00");
        freed.let(0);
        freed.hour();
        freed.free(0);
        freed.hour();
        due("straight, freed: by its own wind", freed.balloon(0, 0), 2);
        RedBalloons heavy = over("CW1Ba20");
        heavy.let(0);
        heavy.hour();
        due("heavy, hour 0", heavy.balloon(0, 0), 1);
        heavy.hour();
        due("heavy, hour 1", heavy.balloon(0, 0), 1);
        heavy.hour();
        due("heavy, hour 2", heavy.balloon(0, 0), 2);
        RedBalloons odd = over("CW1Ba20Ha00");
        odd.hour();
        odd.let(0);
        due("heavy in an odd hour is caught where it is", odd.hour(), 1);
        RedBalloons light = over("CW1Ba30Hb00Hc00");
        light.let(0);
        due("light", light.hour(), 1);
        due("light is caught where it ends", light.balloon(0, 4), 1);
        RedBalloons away = over("CW1Bd30He00");
        away.let(0);
        due("light, gone at the second cell", away.hour(), 0);
        due("light, what it is", away.balloon(0, 3), GONE);
        due("light, where it was last", away.balloon(0, 0), 4);
        RedBalloons south = over("CW4Bf30");
        south.let(0);
        south.hour();
        due("light, south", south.balloon(0, 0), 15);
    }

    private static void free() {
        RedBalloons x = over("CBa00Bb00Hb10Ha10");
        due("free(0) that is held", x.free(0), STATE);
        due("free(2)", x.free(2), UNKNOWN);
        due("free(-1)", x.free(-1), UNKNOWN);
        x.let(0);
        due("free(0) that flies", x.free(0), STATE);
        due("acts", x.count(12), 1);
        hours(x, 2);
        due("answered", x.balloon(0, 6), 1);
        due("glad", x.balloon(0, 7), 1);
        due("free(0)", x.free(0), 1);
        due("flies", x.balloon(0, 3), FLIES);
        due("no hedge", x.balloon(0, 4), NONE);
        due("not answered", x.balloon(0, 6), 0);
        due("not glad", x.balloon(0, 7), 0);
        due("caught again", x.hour(), 1);
        due("late again", x.balloon(0, 6), 0);
        x.hour();
        due("answered again", x.balloon(0, 6), 1);
        RedBalloons gone = over("CW3Ba00");
        gone.let(0);
        gone.hour();
        due("free(0) that is gone", gone.free(0), STATE);
    }

    private static void right() {
        RedBalloons x = over("CBa01Bb00Bc01Ha00Hb01");
        String was = all(x);
        due("right(0, 3)", x.right(0, 3), UNKNOWN);
        due("right(3, 0)", x.right(3, 0), UNKNOWN);
        due("right(-1, -1)", x.right(-1, -1), UNKNOWN);
        due("right(1, 1)", x.right(1, 1), OUTSIDE);
        same("what is refused", all(x), was);
        x.let(0);
        x.let(1);
        x.hour();
        due("nobody is glad", x.count(11), 0);
        due("right(0, 1)", x.right(0, 1), 2);
        due("glad", x.count(11), 3);
        due("right(1, 2)", x.right(1, 2), 2);
        due("glad", x.count(11), 6);
        due("child", x.balloon(0, 5), 1);
        due("child", x.balloon(1, 5), 2);
        due("child", x.balloon(2, 5), 0);
        due("acts", x.count(12), 5);
    }

    private static void undo() {
        RedBalloons x = over("CW1Ba10Bc00Hb00");
        String[] was = new String[20];
        was[0] = all(x);
        x.let(0);
        was[1] = all(x);
        x.hour();
        was[2] = all(x);
        x.right(0, 1);
        was[3] = all(x);
        x.free(0);
        was[4] = all(x);
        x.hour();
        for (int left = 4; left >= 0; left--) {
            due("undo()", x.undo(), left);
            same("undo()", all(x), was[left]);
        }
        due("undo()", x.undo(), STATE);
        RedBalloons again = over("CW1Ba10Bc00Hb00");
        again.let(0);
        again.hour();
        again.undo();
        again.right(0, 1);
        due("undo()", again.undo(), 1);
        due("undone hours come again", again.hour(), 1);
        RedBalloons many = over("CBa00");
        many.let(0);
        hours(many, 14);
        due("14 at most", many.count(12), 14);
        hours(many, 3);
        due("14 at most", many.count(12), 14);
        for (int left = 13; left >= 0; left--) {
            due("undo()", many.undo(), left);
        }
        due("undo()", many.undo(), STATE);
        due("the first ones are forgotten", many.count(4), 3);
        due("and so it flies", many.balloon(0, 3), FLIES);
    }

    private static void later() {
        RedBalloons x = over("CW1W4Ba00Bb30Bc00Hg00");
        x.let(0);
        x.let(1);
        String was = all(x);
        due("now", x.later(0, 0, 0), 0);
        due("now", x.later(0, 0, 1), FLIES);
        due("in 1", x.later(0, 1, 0), 1);
        due("in 2", x.later(0, 2, 0), 6);
        due("in 2", x.later(0, 2, 1), CAUGHT);
        due("in 20", x.later(0, 20, 0), 6);
        due("light in 1", x.later(1, 1, 0), 3);
        due("light in 2", x.later(1, 2, 0), 13);
        due("light in 3: gone", x.later(1, 3, 1), GONE);
        due("light in 3: last", x.later(1, 3, 0), 14);
        due("held in 20", x.later(2, 20, 1), HELD);
        due("none", x.later(3, 21, 2), UNKNOWN);
        due("none", x.later(-1, 0, 0), UNKNOWN);
        due("n", x.later(0, 21, 0), OUTSIDE);
        due("n", x.later(0, -1, 0), OUTSIDE);
        due("what", x.later(0, 0, 2), OUTSIDE);
        due("what", x.later(0, 0, -1), OUTSIDE);
        same("nothing is changed", all(x), was);
    }

    private static void comes() {
        RedBalloons x = over("CW1Ba00Bb20Bd00Hc40He90");
        due("held", x.comes(0), NONE);
        x.let(0);
        x.let(1);
        String was = all(x);
        due("2 hours, 4 late", x.comes(0), 6);
        due("heavy: 1 hour, 4 late", x.comes(1), 5);
        due("none", x.comes(3), UNKNOWN);
        due("none", x.comes(-1), UNKNOWN);
        same("nothing is changed", all(x), was);
        hours(x, 5);
        due("1 more", x.comes(0), 1);
        due("now", x.comes(1), 0);
        x.hour();
        due("now", x.comes(0), 0);
        x.hour();
        due("still", x.comes(0), 0);
        // The winds go to and fro for 21 hours ahead of the hedge, or 22.
        RedBalloons far = over("CW0W0W0W1Ba20Bb20He93");
        far.let(0);
        far.let(1);
        due("a heavy one never goes in odd hours", far.comes(0), NONE);
        RedBalloons edge = over("CW0W0W0W1Ba00Bb00Hf00He93");
        edge.let(0);
        edge.let(1);
        due("16 hours, 9 late", edge.comes(0), 25);
        due("12 hours, 9 late", edge.comes(1), 21);
    }

    private static void comesAtThirty() {
        // Heavy ones go by wind 2 of 3 in hours 2, 8, 14, 20, so that the fourth cell is reached behind 21.
        RedBalloons x = over("CW0W0W1Ba20Bb20He90");
        x.let(0);
        due("21 hours, 9 late", x.comes(0), 30);
        RedBalloons y = over("CW0W1W0Ba20Bb20He90");
        y.let(0);
        // Hours 4, 10, 16, 22: 23 and 9 are 32.
        due("23 hours, 9 late", y.comes(0), NONE);
        RedBalloons z = over("CW0W1W0Ba20Bb20He70");
        z.let(0);
        due("23 hours, 7 late", z.comes(0), 30);
        RedBalloons w = over("CW0W1W0Ba20Bb20He80");
        w.let(0);
        due("23 hours, 8 late", w.comes(0), NONE);
    }

    private static void best() {
        RedBalloons x = over("CW1W4Ba03Bb00Bf01Hb02Hf13");
        // In hour 0 it is caught at b (2), in hour 1 it goes south, to f, which answers with 3.
        due("best(0)", x.best(0), 1);
        due("nothing for it", x.best(1), NONE);
        due("nothing for it", x.best(2), NONE);
        String was = all(x);
        due("none", x.best(3), UNKNOWN);
        due("none", x.best(-1), UNKNOWN);
        same("nothing is changed", all(x), was);
        x.hour();
        due("best(0) in hour 1", x.best(0), 0);
        x.hour();
        due("best(0) in hour 2", x.best(0), 1);
        x.right(0, 1);
        due("its own child's wish alone counts", x.best(0), 1);
        x.let(0);
        due("flies", x.best(0), STATE);
        x.hour();
        due("caught", x.best(0), STATE);
        RedBalloons soon = over("CW0W1Ba03Hb93");
        due("of like ones the fewest, not the shortest flight", soon.best(0), 0);
        // 20 hours of flight reach e for a heavy one, that goes in hours 2, 8, 14, 20 alone: not let in hour 0.
        RedBalloons long20 = over("CW0W0W1Ba23He03");
        due("21 hours are too long, 20 are not", long20.best(0), 1);
        RedBalloons wait = over("CW3W3W3W1Ba03Hb03");
        due("best(0)", wait.best(0), 3);
    }

    private static void bestAtTwelve() {
        // A heavy one goes by the wind of hour 0, 2 alone; the waits come round within 4 hours, so
        // that a wait of more is never best: what is never good is NONE.
        RedBalloons x = over("CW3W3W3W1Ba23Hb03");
        due("heavy, never in odd hours", x.best(0), NONE);
        // By 3 winds and even hours alone 6 hours are one round: hour 4 is the only good one.
        RedBalloons y = over("CW3W1W3Ba23Hb03");
        due("heavy, in hour 4 alone, or 3 that waits for it", y.best(0), 3);
    }

    private static void most() {
        RedBalloons x = over("CW0Ba01Bb02Bc00Ha00Hb01Hc02");
        due("nobody is let", x.most(0), 0);
        due("none needed", x.most(1), 0);
        x.let(0);
        x.let(1);
        x.let(2);
        String was = all(x);
        due("all three", x.most(0), 3);
        due("by two exchanges", x.most(1), 2);
        due("what", x.most(2), OUTSIDE);
        due("what", x.most(-1), OUTSIDE);
        same("nothing is changed", all(x), was);
        x.right(0, 1);
        due("all three", x.most(0), 3);
        due("one is left", x.most(1), 1);
        x.right(1, 2);
        x.right(0, 1);
        x.right(1, 2);
        due("all three still", x.most(0), 3);
        RedBalloons five = over("CBa01Bb00Bc03Bd02Be00Ha00Hb01Hc02Hd03");
        for (int b = 0; b < 4; b++) {
            five.let(b);
        }
        due("four of five", five.most(0), 4);
        due("two pairs", five.most(1), 2);
        RedBalloons like = over("CBa00Bb01Bb00Ha00Hb00");
        like.let(0);
        like.let(1);
        due("two wish for it", like.most(0), 2);
        due("one exchange", like.most(1), 1);
        RedBalloons round = over("CBa01Bb02Bc03Bd00Be00Ha00Hb01Hc02Hd03");
        for (int b = 0; b < 4; b++) {
            round.let(b);
        }
        due("four in a round", round.most(0), 4);
        due("three exchanges", round.most(1), 3);
        RedBalloons late = over("CW0W1W0Ba20Bb03He83");
        late.let(0);
        due("31 hours are too late", late.most(0), 0);
        late.hour();
        due("30 are not", late.most(0), 1);
        due("one exchange", late.most(1), 1);
    }

    private static void judge() {
        RedBalloons x = over("CW1Ba00Bb01Hb00");
        String was = all(x);
        due("an hour", x.judge(1, 0), NONE);
        due("four hours", x.judge(4, 0), NONE);
        due("let, hour, free, hour", x.judge(4, 100000200000L), NONE);
        due("let, hour, glad", x.judge(3, 100000400L), NONE);
        due("let, glad", x.judge(2, 100400L), 1);
        due("let twice", x.judge(2, 101101L), 1);
        due("let of none", x.judge(1, 102L), 0);
        due("free of none", x.judge(1, 209L), 0);
        due("free what is held", x.judge(1, 200L), 0);
        due("put right", x.judge(1, 301L), NONE);
        due("put right", x.judge(1, 310L), NONE);
        due("put right with itself", x.judge(1, 311L), 0);
        due("put right with none", x.judge(1, 302L), 0);
        due("put right with none", x.judge(1, 320L), 0);
        due("glad of none", x.judge(1, 409L), 0);
        due("put right, let, hour, own child glad", x.judge(4, 301100000400L), 3);
        due("put right, let, hour, the other's answer is not its wish", x.judge(4, 301100000401L), 3);
        due("5 is nothing", x.judge(2, 500L), 1);
        due("9 is nothing", x.judge(1, 999L), 0);
        due("0, 0, 1 is nothing", x.judge(1, 1L), 0);
        due("0, 1, 0 is nothing", x.judge(1, 10L), 0);
        due("1, 1, 0 is nothing", x.judge(1, 110L), 0);
        due("2, 1, 0 is nothing", x.judge(4, 100000000210L), 3);
        due("4, 1, 0 is nothing", x.judge(3, 100000410L), 2);
        due("n", x.judge(0, 0), OUTSIDE);
        due("n", x.judge(5, 0), OUTSIDE);
        due("n", x.judge(Integer.MIN_VALUE, 0), OUTSIDE);
        due("row", x.judge(1, -1), OUTSIDE);
        due("row", x.judge(1, 1000L), OUTSIDE);
        due("row", x.judge(2, 1000000L), OUTSIDE);
        due("row", x.judge(3, 1000000000L), OUTSIDE);
        due("row", x.judge(3, 999999999L), 0);
        due("row", x.judge(4, 1000000000000L), OUTSIDE);
        due("row", x.judge(4, Long.MAX_VALUE), OUTSIDE);
        due("row", x.judge(4, 999999999999L), 0);
        due("row", x.judge(2, 999999L), 0);
        same("nothing is changed", all(x), was);
    }

    private static void find() {
        RedBalloons x = new RedBalloons();
        due("cell", x.find(-1, -1), UNKNOWN);
        due("cell", x.find(20, 0), UNKNOWN);
        due("n", x.find(0, -1), OUTSIDE);
        due("n", x.find(0, 10), OUTSIDE);
        due("found", x.count(13), 0);
        due("find(0, 9)", x.find(0, 9), 1);
        due("find(19, 0)", x.find(19, 0), 2);
        for (int i = 3; i <= 6; i++) {
            due("find " + i, x.find(1, 1), i);
        }
        due("the seventh", x.find(1, 1), FULL);
        due("the seventh, n", x.find(1, 10), OUTSIDE);
        due("the seventh, cell", x.find(20, 10), UNKNOWN);
        due("found", x.count(13), 6);
        due("no act", x.count(12), 0);
    }

    private static void lose() {
        RedBalloons x = over("CW1");
        due("lose()", x.lose(), 0);
        x.find(1, 1);
        x.find(5, 1);
        due("began(0)", x.began(0), 0);
        due("lose()", x.lose(), 2);
        due("found", x.count(13), 0);
        due("began(0)", x.began(0), (1 << 20) - 1);
        due("find(2, 1)", x.find(2, 1), 1);
        due("began(0)", x.began(0), 1 << 1);
    }

    private static void began() {
        RedBalloons x = over("CW1W4Ba00Hb00");
        hours(x, 3);
        due("kind", x.began(-1), OUTSIDE);
        due("kind", x.began(4), OUTSIDE);
        x.find(6, 2);
        due("red: east, south from hour 0", x.began(0), 1 << 0);
        due("straight: east, east: from f less one", x.began(1), 0);
        due("heavy: east", x.began(2), 1 << 5);
        due("light: 2 east, 2 south", x.began(3), 0);
        x.lose();
        x.find(7, 2);
        due("straight: east, east", x.began(1), 1 << 5);
        x.lose();
        x.find(12, 2);
        due("light", x.began(3), 1 << 0);
        x.find(2, 1);
        due("light, twice found", x.began(3), 1 << 0);
        x.find(3, 1);
        due("not in two cells at once", x.began(3), 0);
        x.lose();
        x.find(4, 0);
        due("where it was let", x.began(0), 1 << 4);
        x.find(4, 1);
        due("gone ones are nowhere", x.began(0), 0);
        RedBalloons still = new RedBalloons();
        still.find(8, 9);
        due("no winds", still.began(3), 1 << 8);
        // Hours 0, 2, 4, 6, 8 are even: a heavy one goes five times in nine hours, which no row has.
        RedBalloons heavy = over("CW1W0W2W0");
        heavy.find(3, 9);
        due("heavy, 9 hours", heavy.began(2), 1 << 2);
        due("red, 9 hours", heavy.began(0), 1 << 2);
    }

    private static void share(RedBalloons x, int hedge, int above, int below) {
        due("share(" + hedge + ") above", x.share(hedge, true), above);
        due("share(" + hedge + ") below", x.share(hedge, false), below);
    }

    private static void share() {
        RedBalloons x = over("CW1Ba00Ba01Hb00Hc01");
        x.let(0);
        x.let(1);
        String was = all(x);
        // Alone each gladdens one; b keeps from c what c would answer: glad with b 1, with c 1, both 1.
        share(x, 0, 1, 2);
        share(x, 1, 1, 2);
        due("none", x.share(2, true), UNKNOWN);
        due("none", x.share(2, false), UNKNOWN);
        due("none", x.share(-1, true), UNKNOWN);
        same("nothing is changed", all(x), was);
        RedBalloons less = over("CW1Ba00Hb01Hc00");
        less.let(0);
        // c gladdens alone; b takes it away: c 1/2, b -1/2.
        share(less, 0, -1, 2);
        share(less, 1, 1, 2);
        RedBalloons caught = over("CW1Ba00Hb00Hc00");
        caught.let(0);
        caught.hour();
        // Caught in b: gone without b, whatever c could have answered.
        share(caught, 0, 1, 1);
        share(caught, 1, 0, 1);
        RedBalloons three = over("CW1Ba00Ba01Hb01Hc00Hd00");
        three.let(0);
        three.let(1);
        // b alone 1, c alone 1, d alone 1, with b always 1, c and d 1.
        share(three, 0, 1, 3);
        share(three, 1, 1, 3);
        share(three, 2, 1, 3);
        RedBalloons four = over("CW1Ba00Hb01Hc01Hd00He93");
        four.let(0);
        // d gladdens if neither b nor c has come: with d last of b, c 1/3; b and c take 1/6 each.
        share(four, 0, -1, 6);
        share(four, 1, -1, 6);
        share(four, 2, 1, 3);
        share(four, 3, 0, 1);
        RedBalloons late = over("CW0W1W0Ba23He83");
        late.let(0);
        share(late, 0, 0, 1);
        late.hour();
        share(late, 0, 1, 1);
        due("no hedge has gone by that", four.later(0, 20, 0), 1);
        due("no hedge has gone by that", four.hour(), 1);
        RedBalloons sheet = over("CBa00Bb01Ha01");
        sheet.let(0);
        share(sheet, 0, 0, 1);
        sheet.right(0, 1);
        share(sheet, 0, 1, 1);
    }

    private static void rests() {
        RedBalloons x = over("CW1Ba00Ba00Bt00Hb00Hj01");
        String was = all(x);
        // Let: 3, less 1 if both are; held: 1. Each lets go whatever the other does: 2 over 1.
        due("one pair", x.rests(0, 1, 0), 1);
        due("both let", x.rests(0, 1, 1), 11);
        // Balloon 2 has nothing to win: held is better.
        due("one pair", x.rests(0, 2, 0), 1);
        due("the one lets", x.rests(0, 2, 1), 10);
        due("the other lets", x.rests(2, 0, 1), 1);
        due("none", x.rests(0, 3, 2), UNKNOWN);
        due("none", x.rests(3, 0, 0), UNKNOWN);
        due("none", x.rests(-1, -1, 0), UNKNOWN);
        due("both are one", x.rests(1, 1, 0), OUTSIDE);
        due("what", x.rests(0, 1, 2), OUTSIDE);
        due("what", x.rests(0, 1, -1), OUTSIDE);
        same("nothing is changed", all(x), was);
        RedBalloons exchanged = over("CW1Ba00Bf00Hb00Hg01");
        exchanged.right(0, 1);
        // What comes for 0 goes to 1's child, and nothing good comes for 1: nobody gains by letting go.
        due("none lets", exchanged.rests(0, 1, 0), 1);
        due("none lets", exchanged.rests(0, 1, 1), 0);
        RedBalloons late = over("CW1Ba00Bt01Hb80Hs91");
        due("9 hours are enough for 8 late", late.rests(0, 1, 1), 10);
        RedBalloons later = over("CW1Ba00Bt01Hb90Hs91");
        due("and not for 9 late", later.rests(0, 1, 1), 0);
        x.let(0);
        due("one is not held", x.rests(0, 1, 0), STATE);
        due("one is not held", x.rests(1, 0, 0), STATE);
        due("one is not held, what", x.rests(1, 0, 2), OUTSIDE);
        due("two others", x.rests(1, 2, 1), 10);
    }

    private static void restsAllWays() {
        // Only if let alone a child is worse off: 3 - 1 = 2 together, 3 alone, 1 held.
        // By exchanged sheets: what comes for the other gladdens me, so each holds on and has 1.
        RedBalloons cross = over("CW1Ba00Ba00Hb00");
        cross.right(0, 1);
        // pairs (one, other): 00: 1,1; 01: 1+3, 0; 10: 0, 4; 11: 2, 2. Held is better each time.
        due("one pair", cross.rests(0, 1, 0), 1);
        due("held both", cross.rests(0, 1, 1), 0);
        // Nothing comes to anybody, and both are caught in one: held 1 each, let 0 or -1.
        RedBalloons bad = over("CW1Ba00Ba00Hb01");
        due("held both", bad.rests(0, 1, 1), 0);
        // A third child's balloon is no matter: it gladdens itself alone.
        RedBalloons third = over("CW1Ba00Bt00Ba01Hb00");
        third.let(2);
        due("third", third.rests(0, 1, 1), 10);
    }

    private static void chance(RedBalloons x, int hedge, int n, int tenths, int above, int below) {
        String call = "fails(0, " + hedge + ", " + n + ", " + tenths + ") ";
        due(call + "above", x.fails(0, hedge, n, tenths, true), above);
        due(call + "below", x.fails(0, hedge, n, tenths, false), below);
    }

    private static void fails() {
        RedBalloons x = over("CW1Ba00Ba10Hb00Hc00");
        chance(x, 0, 1, 0, 0, 1);
        x.let(0);
        String was = all(x);
        chance(x, 0, 1, 0, 1, 1);
        chance(x, 0, 1, 10, 0, 1);
        chance(x, 0, 1, 3, 7, 10);
        chance(x, 0, 2, 5, 3, 4);
        chance(x, 0, 6, 9, 1000000 - 531441, 1000000);
        chance(x, 1, 6, 5, 0, 1);
        due("no balloon", x.fails(2, 0, 0, 11, true), UNKNOWN);
        due("no balloon", x.fails(-1, 0, 1, 1, false), UNKNOWN);
        due("no hedge", x.fails(0, 2, 1, 1, true), UNKNOWN);
        due("no hedge", x.fails(0, -1, 7, 1, false), UNKNOWN);
        due("n", x.fails(0, 0, 0, 1, true), OUTSIDE);
        due("n", x.fails(0, 0, 7, 1, false), OUTSIDE);
        due("x", x.fails(0, 0, 1, -1, true), OUTSIDE);
        due("x", x.fails(0, 0, 1, 11, false), OUTSIDE);
        same("nothing is changed", all(x), was);
        x.hour();
        chance(x, 0, 6, 10, 1, 1);
        chance(x, 1, 6, 0, 0, 1);
        x.free(0);
        // Freed at b: still, it is caught there again; by the wind, it comes to c.
        chance(x, 0, 1, 3, 3, 10);
        chance(x, 1, 1, 3, 7, 10);
        RedBalloons straight = over("CW1W4Ba10Hc00Hf00");
        straight.let(0);
        // East first (6/10), then east whatever fails: c. South first (4/10 of failing, then 6/10): f.
        chance(straight, 0, 2, 4, 3, 5);
        chance(straight, 1, 2, 4, 6, 25);
        RedBalloons heavy = over("CW1Ba20Hc00");
        heavy.let(0);
        chance(heavy, 0, 3, 5, 1, 4);
        chance(heavy, 0, 2, 5, 0, 1);
        heavy.hour();
        // Hours 1, 2, 3: hour 2 alone counts.
        chance(heavy, 0, 3, 2, 4, 5);
    }

    private static void seed() {
        RedBalloons x = new RedBalloons();
        due("seed", x.seed(Long.MIN_VALUE), 0);
        due("seed", x.seed(Long.MAX_VALUE), Long.MIN_VALUE);
        due("seed", x.seed(-1), Long.MAX_VALUE);
        due("seed", x.seed(0), -1);
        due("no act", x.count(12), 0);
    }

    /** A seed whose next number is a given doing, so that years can be told by hand. */
    private static long seedFor(int... doings) {
        for (long start = 0; ; start++) {
            long v = start;
            boolean fits = true;
            for (int doing : doings) {
                v = v * 6364136223846793005L + 1442695040888963407L;
                long drawn = Long.divideUnsigned(v, 1L << 33) % 24;
                boolean same = doing < 13 ? drawn == doing : drawn >= 13;
                fits = fits && same;
            }
            if (fits) {
                return start;
            }
        }
    }

    private static void years() {
        RedBalloons x = over("CBa00Bb01Bc01Ha00Hb01");
        String was = all(x);
        due("m", x.years(0), OUTSIDE);
        due("m", x.years(31), OUTSIDE);
        due("m", x.years(-1), OUTSIDE);
        same("what is refused", all(x), was);
        x.seed(seedFor(0, 13));
        due("let 0, an hour", x.years(2), 1);
        x.seed(seedFor(0, 13, 14));
        due("let 0, hours", x.years(3), 2);
        x.seed(seedFor(0, 13, 5));
        due("let 0, an hour, free 0", x.years(3), 1);
        x.seed(seedFor(1, 13, 11));
        due("let 1, an hour, put right 1 and 2", x.years(3), 2);
        x.seed(seedFor(1, 13, 10));
        due("let 1, an hour, put right 0 and 1", x.years(3), 1);
        x.seed(seedFor(1, 13, 12));
        due("let 1, an hour, put right 2 and 3, of which there is none", x.years(3), 2);
        RedBalloons four = over("CBa00Bb01Bc02Bd03Ha00Hb01Hc03");
        four.let(2);
        four.hour();
        four.seed(seedFor(12));
        due("put right 2 and 3", four.years(1), 1);
        RedBalloons five = over("CBa00Ba00Ba00Ba00Ba00Ha00");
        five.seed(seedFor(4, 13));
        due("let 4, an hour", five.years(2), 1);
        five.let(4);
        five.hour();
        five.seed(seedFor(9));
        due("free 4", five.years(1), 0);
        five.seed(seedFor(23));
        due("an hour", five.years(1), 1);
        x.seed(seedFor(3, 13));
        due("let 3, of which there is none", x.years(2), 0);
        x.seed(seedFor(1, 13, 6));
        due("let 1, an hour, free 1", x.years(3), 1);
        x.seed(0);
        same("nothing changes", all(x), was);
        x.seed(5);
        x.years(1);
        due("the seed goes on", x.seed(0), 5 * 6364136223846793005L + 1442695040888963407L);
        x.seed(5);
        x.years(30);
        long far = x.seed(5);
        x.years(13);
        x.years(17);
        due("30 times are 13 and 17", x.seed(0), far);
        x.let(0);
        x.hour();
        x.seed(seedFor(13));
        due("from now on", x.years(1), 1);
    }

    private static void keep() {
        RedBalloons x = over("CW1Ba00Hb00");
        due("keep(-1)", x.keep(-1), UNKNOWN);
        due("keep(2)", x.keep(2), UNKNOWN);
        due("keep(0)", x.keep(0), 0);
        x.let(0);
        x.hour();
        due("acts stay", x.count(12), 2);
        due("keep(1)", x.keep(1), 1);
        due("acts stay", x.count(12), 2);
        hours(x, 2);
        due("keep(0)", x.keep(0), 3);
        due("again(0): the last that was kept", x.again(0), 3);
        due("again(1)", x.again(1), 1);
    }

    private static void again() {
        RedBalloons x = over("CW1W4Ba10Bf00Hb20Hc00");
        due("again(-1)", x.again(-1), UNKNOWN);
        due("again(2)", x.again(2), UNKNOWN);
        due("again(0)", x.again(0), STATE);
        x.let(0);
        x.hour();
        x.right(0, 1);
        x.keep(1);
        due("again(0)", x.again(0), STATE);
        String was = all(x).replaceAll("^((\\S+ ){12})\\S+", "$10");
        x.free(0);
        x.let(1);
        hours(x, 3);
        x.right(0, 1);
        due("again(1)", x.again(1), 1);
        same("again(1)", all(x), was);
        due("undo()", x.undo(), STATE);
        x.free(0);
        x.hour();
        due("its wind was kept too", x.balloon(0, 0), 2);
        due("again(1)", x.again(1), 1);
        x.hour();
        due("1 of 2 late", x.balloon(0, 6), 0);
        x.hour();
        due("2 of 2 late: the hour by which it was caught was kept", x.balloon(0, 6), 1);
        x.find(3, 3);
        x.seed(4);
        x.again(1);
        due("found stays", x.count(13), 1);
        due("the seed stays", x.seed(0), 4);
    }

    private static void count() {
        RedBalloons x = over("CW3W1Ba00Bb01Bc02Bd03Ba00Hb11Hd03");
        int[] first = {33, 2, 5, 2, 0, 3, 31, 0, 0, 0, 0, 0, 0, 0};
        for (int what = 0; what < 14; what++) {
            due("count(" + what + ")", x.count(what), first[what]);
        }
        x.hour();
        x.let(0);
        x.let(2);
        x.let(4);
        x.hour();
        x.find(0, 0);
        int[] second = {33, 2, 5, 2, 2, 3, 10, 0, 21, 0, 4, 0, 5, 1};
        for (int what = 0; what < 14; what++) {
            due("count(" + what + ")", x.count(what), second[what]);
        }
        x.right(2, 3);
        x.let(1);
        x.hour();
        int[] third = {33, 2, 5, 2, 3, 1, 8, 0, 21, 2, 21, 8, 8, 1};
        for (int what = 0; what < 14; what++) {
            due("count(" + what + ")", x.count(what), third[what]);
        }
        due("count(14)", x.count(14), OUTSIDE);
        due("count(-1)", x.count(-1), OUTSIDE);
        due("flies", over("CBa00").count(7), 0);
        RedBalloons y = over("CW0Ba00Bb00");
        y.let(1);
        due("flies", y.count(7), 2);
    }

    private static void ask(int number) {
        promise = number;
        switch (number) {
            case 1: newObject(); break;
            case 2: write(); break;
            case 3: wipe(); break;
            case 4: fault(); break;
            case 5: city(); break;
            case 6: balloon(); break;
            case 7: hedge(); break;
            case 8: let(); break;
            case 9: hour(); break;
            case 10: free(); break;
            case 11: right(); break;
            case 12: undo(); break;
            case 13: later(); break;
            case 14: comes(); comesAtThirty(); break;
            case 15: best(); bestAtTwelve(); break;
            case 16: most(); break;
            case 17: judge(); break;
            case 18: find(); break;
            case 19: lose(); break;
            case 20: began(); break;
            case 21: share(); break;
            case 22: rests(); restsAllWays(); break;
            case 23: fails(); break;
            case 24: seed(); break;
            case 25: years(); break;
            case 26: keep(); break;
            case 27: again(); break;
            default: count(); break;
        }
    }

    public static void main(String[] args) {
        for (int number = 1; number <= 28; number++) {
            ask(number);
        }
        System.out.println(wrong == 0 ? "all " + asked + " answers are as due" : wrong + " answers are not as due");
        if (wrong != 0) {
            System.exit(1);
        }
    }
}
