/** What is foretold and seen, at its bounds, and held against what other calls tell of the same day. */
public final class ForetoldBoundsTest {
    private static final int NONE = -1, UNKNOWN = -2, OUTSIDE = -3, NOT = -4, FULL = -5;
    private static final int MIN = Integer.MIN_VALUE, MAX = Integer.MAX_VALUE;
    private static final String[] FIGURES = {"march", "back", "double", "turn", "kneel"};
    private static final Checks c = new Checks();

    /** Days that differ in their hours, drills, and in what stands begun. */
    private static final String[] TEXTS = {
        "hour 2;kneel 1 3",
        "hour 3;stand 5 1;march 0 4;turn 0 2;kneel 0 3;double 1 2;kneel 1 2;back 1 5",
        "hour 9;kneel 0 9;turn 0 1;kneel 1 9;march 1 9",
        "ground 6 2;hour 5;stand 1 1;turn 0 2;kneel 1 9;march 1 3;kneel 1 1",
        "ground 2 6;hour 4;stand 6 2;back 0 9;double 0 9;turn 1 9;kneel 1 9;kneel 1 9"};

    public static void main(String[] args) {
        behindOutside();
        behindIsWhatPassGives();
        behindOfNothing();
        firstAt99();
        firstIsWhatBehindTells();
        plotRefused();
        plotIsTheBestOfAll();
        plotAt40();
        plotNone();
        seenAtItsBounds();
        seenIsFull();
        seenStays();
        woundByEachBit();
        woundIsWhatWindingGives();
        lastMinuteSeen();
        orderedNone();
        orderedIsWhatTheTextGives();
        inspectedOutside();
        inspectedIsWhatBehindTells();
        inspectedIsCut();
        countOutside();
        c.finish();
    }

    private static TwoArmies at(String text, int gone) {
        TwoArmies x = Checks.told(text);
        if (gone > 0) {
            x.pass(gone);
        }
        return x;
    }

    private static int pick(int what, int... answers) {
        return answers[what];
    }

    private static void behindOutside() {
        c.part("behind 0 .. 99");
        for (int n : new int[] {-1, 100, 101, -99, MIN, MAX}) {
            for (int what = -1; what <= 5; what++) {
                c.due("behind(" + n + ", " + what + ")", at(TEXTS[1], 2).behind(n, what), OUTSIDE);
            }
        }
        for (int what : new int[] {-1, 5, 6, MIN, MAX}) {
            c.due("behind(0, " + what + ")", at(TEXTS[1], 2).behind(0, what), OUTSIDE);
            c.due("behind(99, " + what + ")", at(TEXTS[1], 2).behind(99, what), OUTSIDE);
        }
    }

    private static void behindIsWhatPassGives() {
        c.part("behind is what pass gives");
        for (String text : TEXTS) {
            for (int n = 0; n <= 99; n++) {
                TwoArmies x = at(text, 1);
                TwoArmies then = at(text, 1);
                if (n > 0) {
                    then.pass(Math.min(n, 60));
                }
                if (n > 60) {
                    then.pass(n - 60);
                }
                int cell = then.count(5);
                for (int what = 0; what <= 4; what++) {
                    int due = pick(what, cell, then.count(6), then.mud(cell), then.army(0, 1), then.army(1, 1));
                    c.due(text + ": behind(" + n + ", " + what + ")", x.behind(n, what), due);
                }
                c.due("nothing changes", x.count(15), 1);
            }
        }
    }

    private static void behindOfNothing() {
        c.part("behind of a new object");
        TwoArmies x = new TwoArmies();
        for (int what = 0; what <= 4; what++) {
            c.due("behind(0, " + what + ")", x.behind(0, what), 0);
            c.due("behind(99, " + what + ")", x.behind(99, what), 0);
        }
        TwoArmies late = Checks.told("hour 9;turn 0 9;turn 0 9;turn 0 9;turn 0 9;turn 0 9;turn 0 8;kneel 0 9");
        c.due("behind 98", late.behind(98, 3), 0);
        c.due("behind 99", late.behind(99, 3), 1);
    }

    private static void firstAt99() {
        c.part("first of 99");
        for (int army : new int[] {-1, 2, 3, MIN, MAX}) {
            c.due("first(" + army + ")", at(TEXTS[0], 0).first(army), UNKNOWN);
        }
        c.due("a new object's", new TwoArmies().first(0), NONE);
        c.due("a new object's", new TwoArmies().first(1), NONE);
        c.due("this minute", Checks.told("kneel 0 1").first(0), 1);
        c.due("the other's", Checks.told("kneel 0 1").first(1), NONE);
        String turns = "hour 9;turn 0 9;turn 0 9;turn 0 9;turn 0 9;turn 0 9;turn 0 ";
        c.due("98", Checks.told(turns + "7;kneel 0 1").first(0), 98);
        c.due("99", Checks.told(turns + "8;kneel 0 1").first(0), 99);
        TwoArmies x = Checks.told(turns + "9;kneel 0 1");
        c.due("beyond 99", x.first(0), NONE);
        // the next minute of army 0 is the 109th
        x.pass(9);
        c.due("100", x.first(0), NONE);
        x.pass(1);
        c.due("99 again", x.first(0), 99);
        // begun by army 0 in minute 99, its last one: army 1 has the 100th
        TwoArmies y = Checks.told(turns + "8;kneel 0 2");
        c.due("the enemy's is beyond", y.first(1), NONE);
        y.pass(1);
        c.due("the enemy's", y.first(1), 99);
        c.due("its own", y.first(0), 98);
    }

    private static void firstIsWhatBehindTells() {
        c.part("first is what behind tells");
        for (String text : TEXTS) {
            for (int gone = 0; gone <= 40; gone++) {
                TwoArmies x = at(text, gone);
                for (int army = 0; army < 2; army++) {
                    int due = NONE;
                    for (int n = 99; n >= 1; n--) {
                        due = x.behind(n, 3 + army) > x.army(army, 1) ? n : due;
                    }
                    c.due(text + ": first(" + army + ") behind " + gone, x.first(army), due);
                }
            }
        }
    }

    private static String figures(int number) {
        return "turn 0 1" + ";turn 0 1".repeat(number - 1);
    }

    private static void plotRefused() {
        c.part("plot, refused");
        for (int army : new int[] {-1, 2, MIN, MAX}) {
            c.due("plot(" + army + ", 1, 0)", at(TEXTS[0], 0).plot(army, 1, 0), UNKNOWN);
            c.due("UNKNOWN ahead of OUTSIDE", at(TEXTS[0], 0).plot(army, 41, 3), UNKNOWN);
            c.due("UNKNOWN ahead of NOT", at(figures(7), 0).plot(army, 1, 0), UNKNOWN);
        }
        for (int n : new int[] {0, 41, -1, 42, MIN, MAX}) {
            c.due("plot(0, " + n + ", 0)", at(TEXTS[0], 0).plot(0, n, 0), OUTSIDE);
            c.due("OUTSIDE ahead of NOT", at(figures(7), 0).plot(0, n, 0), OUTSIDE);
        }
        for (int what : new int[] {-1, 3, MIN, MAX}) {
            c.due("plot(1, 1, " + what + ")", at(TEXTS[0], 0).plot(1, 1, what), OUTSIDE);
            c.due("OUTSIDE ahead of NOT", at(figures(8), 0).plot(0, 40, what), OUTSIDE);
        }
        for (int number = 1; number <= 8; number++) {
            for (int what = 0; what < 3; what++) {
                int due = number > 6 ? NOT : pick(what, 0, 1, 1);
                c.due(number + " figures", at(figures(number), 0).plot(0, 1, what), due);
                c.due("the other has none", at(figures(number), 0).plot(1, 1, what), pick(what, 0, 1, 1));
            }
        }
        TwoArmies x = at(figures(7), 1);
        c.due("one of 7 is begun", x.plot(0, 1, 0), 0);
        x.order(0, 0, 1);
        c.due("ordered figures count", x.plot(0, 1, 0), NOT);
    }

    /** All 2025 twos are ordered, each to a day of its own. */
    private static void plotIsTheBestOfAll() {
        int[] spans = {1, 2, 7, 20, 39, 40};
        for (int t = 0; t < TEXTS.length; t++) {
            c.part("plot is the best of all: " + TEXTS[t]);
            for (int army = 0; army < 2; army++) {
                int gone = t + 2 * army;
                int[][] best = bestOfAll(TEXTS[t], gone, army, spans);
                TwoArmies x = at(TEXTS[t], gone);
                for (int s = 0; s < spans.length; s++) {
                    for (int what = 0; what < 3; what++) {
                        c.due("plot(" + army + ", " + spans[s] + ", " + what + ")",
                            x.plot(army, spans[s], what), best[s][what]);
                    }
                }
            }
        }
    }

    private static int[][] bestOfAll(String text, int gone, int army, int[] spans) {
        int[][] best = new int[spans.length][];
        for (int s = 0; s < spans.length; s++) {
            best[s] = new int[] {NONE, NONE, NONE};
        }
        for (int one = 0; one < 45; one++) {
            for (int two = 0; two < 45; two++) {
                TwoArmies x = at(text, gone);
                x.order(army, one / 9, one % 9 + 1);
                x.order(army, two / 9, two % 9 + 1);
                int own = x.army(army, 1);
                int others = x.army(1 - army, 1);
                for (int s = 0; s < spans.length; s++) {
                    int much = x.behind(spans[s], 4 - army) - others;
                    if (x.behind(spans[s], 3 + army) == own && much > best[s][0]) {
                        best[s] = new int[] {much, one / 9 * 10 + one % 9 + 1, two / 9 * 10 + two % 9 + 1};
                    }
                }
            }
        }
        return best;
    }

    private static void plotAt40() {
        c.part("plot for 40 minutes");
        // army 1 turns in the minutes 10 .. 18 and 28 .. 36 and kneels in the 46th at the soonest
        String others = "hour 9;turn 1 9;turn 1 9;kneel 1 1";
        c.due("the 41st from now", at(others, 5).plot(0, 40, 0), 0);
        c.due("the 40th from now", at(others, 6).plot(0, 40, 0), 1);
        c.due("not in 39", at(others, 6).plot(0, 39, 0), 0);
        c.due("by the first of all twos", at(others, 6).plot(0, 40, 1), 1);
        c.due("by the first of all twos", at(others, 6).plot(0, 40, 2), 1);
        // army 0 has the minutes 1 .. 9, 19 .. 27, 37 .. 45
        String own = "hour 9;turn 0 9;turn 0 9;turn 0 ";
        c.due("it kneels itself in the 41st", at(own + "4;kneel 0 1", 0).plot(0, 40, 0), 0);
        c.due("it kneels itself in the 40th", at(own + "3;kneel 0 1", 0).plot(0, 40, 0), NONE);
        c.due("not in 39", at(own + "3;kneel 0 1", 0).plot(0, 39, 0), 0);
        // a turn up to the 2nd, then marches of 9 up to the 11th and the 20th: army 1 kneels from the 26th on
        for (int what = 0; what < 3; what++) {
            c.due("the longest twos", at("hour 5;turn 0 2;kneel 1 9", 0).plot(0, 30, what), pick(what, 5, 9, 9));
        }
        String soon = "hour 2;kneel 1 1";
        c.due("the first minute", at(soon, 2).plot(0, 1, 0), 1);
        c.due("the second", at(soon, 1).plot(0, 1, 0), 0);
        c.due("the second of two", at(soon, 1).plot(0, 2, 0), 1);
    }

    private static void plotNone() {
        c.part("plot, none");
        TwoArmies x = Checks.told("kneel 0 1;kneel 1 9");
        for (int what = 0; what < 3; what++) {
            c.due("it kneels itself", x.plot(0, 1, what), NONE);
            c.due("it kneels itself", x.plot(0, 40, what), NONE);
            c.due("the other does not yet", x.plot(1, 4, what), pick(what, 1, 1, 1));
            c.due("then it does", x.plot(1, 5, what), NONE);
        }
    }

    private static void seenAtItsBounds() {
        c.part("seen at its bounds");
        for (int cell : new int[] {-1, 16, 17, 36, MIN, MAX}) {
            TwoArmies x = new TwoArmies();
            c.due("seen(" + cell + ", 1)", x.seen(cell, 1), UNKNOWN);
            c.due("UNKNOWN ahead of OUTSIDE", x.seen(cell, 0), UNKNOWN);
            c.due("UNKNOWN ahead of OUTSIDE", x.seen(cell, 61), UNKNOWN);
            c.due("nothing is seen", x.count(14), 0);
            c.due("all is so", x.wound(), 511);
        }
        for (int n : new int[] {0, -1, 61, 62, MIN, MAX}) {
            TwoArmies x = new TwoArmies();
            c.due("seen(15, " + n + ")", x.seen(15, n), OUTSIDE);
            c.due("nothing is seen", x.forget(), 0);
        }
        for (int n = 1; n <= 60; n++) {
            c.due("seen(15, " + n + ")", new TwoArmies().seen(15, n), 1);
        }
        for (int cell = 0; cell < 16; cell++) {
            c.due("seen(" + cell + ", 60)", new TwoArmies().seen(cell, 60), 1);
        }
    }

    private static void seenIsFull() {
        c.part("seen, 6 at most");
        TwoArmies x = new TwoArmies();
        for (int i = 1; i <= 6; i++) {
            c.due("seen", x.seen(0, i), i);
            c.due("count(14)", x.count(14), i);
        }
        c.due("a seventh", x.seen(1, 1), FULL);
        c.due("one that is seen already", x.seen(0, 1), FULL);
        c.due("OUTSIDE ahead of FULL", x.seen(0, 0), OUTSIDE);
        c.due("OUTSIDE ahead of FULL", x.seen(0, 61), OUTSIDE);
        c.due("UNKNOWN ahead of FULL", x.seen(16, 1), UNKNOWN);
        c.due("UNKNOWN ahead of both", x.seen(-1, 61), UNKNOWN);
        c.due("6", x.count(14), 6);
        c.due("the seventh is not looked at", x.wound(), 511);
        c.due("forget", x.forget(), 6);
        c.due("forget nothing", x.forget(), 0);
        c.due("the first again", x.seen(1, 1), 1);
        c.due("the five before are forgotten", x.wound(), 0);
        for (int i = 2; i <= 6; i++) {
            c.due("seen", x.seen(1, 1), i);
        }
        c.due("a seventh again", x.seen(1, 1), FULL);
        // the sixth one alone is not so
        TwoArmies y = new TwoArmies();
        for (int i = 1; i <= 5; i++) {
            y.seen(0, 1);
        }
        c.due("five", y.wound(), 511);
        y.seen(1, 60);
        c.due("the sixth", y.wound(), 0);
    }

    private static void seenStays() {
        c.part("what is seen stays");
        TwoArmies x = Checks.told("stand 5 1;march 0 2");
        x.seen(6, 1);
        x.keep(0);
        x.seen(7, 2);
        x.back(0);
        c.due("behind back", x.count(14), 2);
        x.pass(1);
        c.due("behind pass", x.count(14), 2);
        x.undo();
        c.due("behind undo", x.count(14), 2);
        Checks.write(x, "hour");
        x.parade();
        c.due("behind a refused text", x.count(14), 2);
        Checks.write(x, " 4");
        x.parade();
        c.due("behind a text", x.count(14), 0);
        c.due("nothing to forget", x.forget(), 0);
        c.due("all is so", x.wound(), 511);
    }

    private static void woundByEachBit() {
        c.part("wound by each of 0 .. 8");
        // army 0 marches on in each of its 9 minutes, army 1 goes back
        String text = "ground 6 2;hour 9;stand 1 1;march 0 9;back 1 1";
        for (int k = 0; k <= 8; k++) {
            TwoArmies x = Checks.told(text);
            TwoArmies wound = Checks.told(text);
            wound.wind(k);
            for (int n = 1; n <= 2; n++) {
                x.seen(wound.behind(n, 0), n);
            }
            c.isTrue("by " + k, (x.wound() >> k & 1) == 1);
            c.due("no other bits", x.wound() & ~511, 0);
        }
        c.due("nothing is seen", new TwoArmies().wound(), 511);
        TwoArmies y = Checks.told("ground 6 2;hour 8;stand 1 1;back 1 1");
        y.seen(0, 1);
        c.due("8 alone of 8 minutes", y.wound(), 0b100000000);
        y.pass(1);
        c.due("7 and 8", y.wound(), 0b110000000);
        y.forget();
        y.seen(1, 1);
        c.due("0 to 6", y.wound(), 0b001111111);
        TwoArmies z = Checks.told("ground 6 2;hour 9;stand 1 1;back 1 1");
        z.seen(0, 1);
        c.due("none of 9 minutes", z.wound(), 0);
        z.forget();
        z.seen(0, 2);
        c.due("8: behind one minute more", z.wound(), 0b100000000);
        z.forget();
        z.seen(0, 10);
        c.due("by nothing, or more", z.wound(), 511);
        z.forget();
        z.seen(1, 9);
        c.due("by nothing alone", z.wound(), 0b000000001);
    }

    private static void woundIsWhatWindingGives() {
        c.part("wound is what winding gives");
        int[] times = {1, 2, 5, 13, 30, 59, 60};
        for (String text : TEXTS) {
            for (int gone = 0; gone <= 12; gone += 3) {
                for (int n : times) {
                    TwoArmies x = at(text, gone);
                    int cell = x.behind(n, 0);
                    int due = 0;
                    for (int k = 0; k <= 8; k++) {
                        x.wind(k);
                        due |= x.behind(n, 0) == cell ? 1 << k : 0;
                        x.undo();
                    }
                    x.seen(cell, n);
                    c.due(text + " behind " + gone + ": wound, seen behind " + n, x.wound(), due);
                }
            }
        }
    }

    private static void lastMinuteSeen() {
        c.part("seen behind 60 minutes");
        TwoArmies y = Checks.told("ground 6 2;hour 9;stand 1 1;turn 0 9;turn 0 9;turn 0 9;turn 0 5;march 0 1");
        // army 0 has the minutes 1 .. 9, 19 .. 27, 37 .. 45, 55 .. 63: it steps in the 60th
        c.due("59", y.behind(59, 0), 1);
        c.due("60", y.behind(60, 0), 2);
        y.seen(2, 60);
        c.isTrue("so behind 60", (y.wound() & 1) == 1);
        y.forget();
        y.seen(1, 60);
        c.isTrue("not so behind 60", (y.wound() & 1) == 0);
        y.forget();
        y.seen(1, 59);
        c.isTrue("so behind 59", (y.wound() & 1) == 1);
    }

    private static void orderedNone() {
        c.part("ordered, refused and none");
        for (int army : new int[] {-1, 2, MIN, MAX}) {
            c.due("ordered(" + army + ", 0)", at(TEXTS[1], 0).ordered(army, 0), UNKNOWN);
            c.due("UNKNOWN ahead of OUTSIDE", at(TEXTS[1], 0).ordered(army, 2), UNKNOWN);
        }
        for (int what : new int[] {-1, 2, 3, MIN, MAX}) {
            c.due("ordered(0, " + what + ")", at(TEXTS[1], 0).ordered(0, what), OUTSIDE);
            c.due("OUTSIDE ahead of NONE", new TwoArmies().ordered(0, what), OUTSIDE);
        }
        TwoArmies x = new TwoArmies();
        for (int army = 0; army < 2; army++) {
            c.due("it has none", x.ordered(army, 0), NONE);
            c.due("it has none", x.ordered(army, 1), NONE);
        }
        x.order(1, 4, 9);
        c.due("it has one: how many", x.ordered(1, 0), 45);
        c.due("it has one: the first", x.ordered(1, 1), 1);
        c.due("the other has none", x.ordered(0, 0), NONE);
        x.seen(1, 1);
        c.due("none fits: how many", x.ordered(1, 0), 0);
        c.due("none fits: the first", x.ordered(1, 1), NONE);
        x.forget();
        x.wind(8);
        x.pass(1);
        c.due("its last one is begun", x.ordered(1, 0), NONE);
        c.due("its last one is begun", x.ordered(1, 1), NONE);
    }

    private static String dayWith(int army, int kind, int minutes) {
        String next = FIGURES[kind] + " " + army + " " + minutes;
        String own = ";march " + army + " 2;turn " + army + " 1;march " + army + " 3";
        int other = 1 - army;
        return "ground 5 4;hour 3;stand 7 1;" + next + own + ";turn " + other + " 1;march " + other + " 2";
    }

    private static void orderedIsWhatTheTextGives() {
        c.part("ordered is what the text gives");
        int[] times = {1, 4, 7, 12, 30, 60};
        for (int army = 0; army < 2; army++) {
            for (int told = 0; told < 45; told += 4) {
                for (int n : times) {
                    orderedBy(army, told, n);
                }
            }
        }
    }

    private static void orderedBy(int army, int told, int n) {
        TwoArmies x = Checks.told(dayWith(army, told / 9, told % 9 + 1));
        int early = x.behind(2, 0);
        int late = x.behind(n, 0);
        x.seen(early, 2);
        x.seen(late, n);
        int fitting = 0;
        int first = NONE;
        for (int code = 0; code < 45; code++) {
            TwoArmies y = Checks.told(dayWith(army, code / 9, code % 9 + 1));
            if (y.behind(2, 0) == early && y.behind(n, 0) == late) {
                fitting++;
                first = first == NONE ? code / 9 * 10 + code % 9 + 1 : first;
            }
        }
        c.due("how many, seen behind " + n, x.ordered(army, 0), fitting);
        c.due("the first, seen behind " + n, x.ordered(army, 1), first);
        c.isTrue("the told one fits", fitting > 0);
        c.due("nothing changes", x.figure(army, 0, 0), told / 9);
    }

    private static void inspectedOutside() {
        c.part("inspected 0 .. 60, 0 .. 10");
        for (int n : new int[] {-1, 61, 62, MIN, MAX}) {
            c.due("inspected(" + n + ", 5)", at(TEXTS[2], 0).inspected(n, 5), OUTSIDE);
        }
        for (int q : new int[] {-1, 11, 12, MIN, MAX}) {
            c.due("inspected(5, " + q + ")", at(TEXTS[2], 0).inspected(5, q), OUTSIDE);
            c.due("inspected(0, " + q + ")", at(TEXTS[2], 0).inspected(0, q), OUTSIDE);
            c.due("inspected(60, " + q + ")", at(TEXTS[2], 0).inspected(60, q), OUTSIDE);
            c.due("both", at(TEXTS[2], 0).inspected(61, q), OUTSIDE);
        }
        for (int q = 0; q <= 10; q++) {
            c.due("no minute", at(TEXTS[2], 0).inspected(0, q), 1000000000);
            c.due("one minute", at(TEXTS[2], 0).inspected(1, q), 100000000 * (10 - q));
            c.due("nobody kneels", new TwoArmies().inspected(60, q), 1000000000);
        }
    }

    private static void inspectedIsWhatBehindTells() {
        c.part("inspected is what behind tells");
        for (String text : TEXTS) {
            for (int q = 0; q <= 10; q++) {
                TwoArmies x = at(text, 1);
                long odds = 1000000000L;
                int knelt = x.army(0, 1) + x.army(1, 1);
                for (int n = 0; n <= 60; n++) {
                    int then = x.behind(n, 3) + x.behind(n, 4);
                    odds = then > knelt ? odds * (10 - q) / 10 : odds;
                    knelt = then;
                    c.due(text + ": inspected(" + n + ", " + q + ")", x.inspected(n, q), odds);
                }
            }
        }
    }

    private static void inspectedIsCut() {
        c.part("inspected is cut each time");
        TwoArmies x = Checks.told("hour 9;kneel 0 9;kneel 0 9;kneel 0 9;kneel 0 9;kneel 1 9;kneel 1 9;kneel 1 9");
        // 0.7 to the tenth and eleventh times a billion: 28247524.9 and, cut before, 19773266.8
        c.due("9", x.inspected(9, 3), 40353607);
        c.due("10", x.inspected(10, 3), 28247524);
        c.due("11", x.inspected(11, 3), 19773266);
        // a billion has nine halves that are whole
        c.due("halves, 9", x.inspected(9, 5), 1953125);
        c.due("halves, 10", x.inspected(10, 5), 976562);
        c.due("halves, 11", x.inspected(11, 5), 488281);
        c.due("halves, 12", x.inspected(12, 5), 244140);
        c.due("halves, 29", x.inspected(29, 5), 1);
        c.due("halves, 30", x.inspected(30, 5), 0);
        c.due("halves, 60", x.inspected(60, 5), 0);
        c.due("q 10, the first", x.inspected(1, 10), 0);
        c.due("q 0, 60", x.inspected(60, 0), 1000000000);
        c.due("q 9, 9", x.inspected(9, 9), 1);
        c.due("q 9, 10", x.inspected(10, 9), 0);
    }

    private static void countOutside() {
        c.part("count 0 .. 16");
        for (int what : new int[] {-1, 17, 18, -16, MIN, MAX}) {
            c.due("count(" + what + ")", at(TEXTS[1], 3).count(what), OUTSIDE);
        }
        // march to 6, 7, the wall | the wall, double at the wall twice | turn, turn
        TwoArmies x = at(TEXTS[1], 8);
        x.seen(0, 1);
        x.seen(0, 2);
        x.order(0, 0, 1);
        x.write('z');
        int[] due = {4, 4, 3, 2, 2, 7, 3, NONE, 0, 2, 0, 6, 0, 0, 2, 2, 1};
        for (int what = 0; what < due.length; what++) {
            c.due("count(" + what + ")", x.count(what), due[what]);
        }
    }
}
