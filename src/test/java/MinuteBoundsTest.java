/** Minutes at their bounds: walls, the stroke, figures that are over, full drills, the clock, undone and kept days. */
public final class MinuteBoundsTest {
    private static final int NONE = -1, UNKNOWN = -2, OUTSIDE = -3, NOT = -4, FULL = -5;
    private static final int MIN = Integer.MIN_VALUE, MAX = Integer.MAX_VALUE;
    private static final String[] FIGURES = {"march", "back", "double", "turn", "kneel"};
    private static final Checks c = new Checks();

    public static void main(String[] args) {
        atFirst();
        mudOfEveryGround();
        stepsOnEveryGround();
        doublesAtTheWall();
        quartersToTheRight();
        figuresAreOver();
        strokes();
        kneelingByTheStroke();
        noFigures();
        theNextOneInTheSameHour();
        passes();
        fullDrills();
        freedByBeginning();
        windings();
        windingLeavesTheRest();
        undoneAtMost();
        undoneOneByOne();
        whatCannotBeUndone();
        keptTwo();
        keptSinceTheLastText();
        behindATextAllIsAnew();
        kindsOverOneAnother();
        asOfNoFigure();
        hoursAbove999();
        hoursAbove999ByWinding();
        backFromAbove999();
        c.finish();
    }

    private static String minuteOf(String word, int w, int h, int cell, int look) {
        return "ground " + w + " " + h + ";stand " + cell + " " + look + ";" + word + " 0 1";
    }

    private static void atFirst() {
        c.part("at first");
        TwoArmies x = new TwoArmies();
        c.due("order", x.order(0, 0, 1), 1);
        c.due("the first row is north", x.pass(1), 0);
        c.due("the north wall", x.count(10), 1);
        TwoArmies y = new TwoArmies();
        c.due("the last cell", y.mud(15), 0);
        c.due("no cell more", y.mud(16), UNKNOWN);
        y.pass(3);
        c.due("hour 0 has 4 minutes", y.count(3), 0);
        y.pass(1);
        c.due("then it is hour 1", y.count(3), 1);
    }

    private static void mudOfEveryGround() {
        c.part("the cells of every ground");
        for (int w = 2; w <= 6; w++) {
            for (int h = 2; h <= 6; h++) {
                TwoArmies x = Checks.told("ground " + w + " " + h);
                c.due("mud of the last cell", x.mud(w * h - 1), 0);
                c.due("mud of one more", x.mud(w * h), UNKNOWN);
                c.due("seen on the last cell", x.seen(w * h - 1, 1), 1);
                c.due("seen on one more", x.seen(w * h, 1), UNKNOWN);
                c.due("mud of none", x.mud(-1), UNKNOWN);
                c.due("seen on none", x.seen(-1, 1), UNKNOWN);
            }
        }
    }

    private static int stepped(int w, int h, int cell, int way) {
        int column = cell % w;
        int row = cell / w;
        return switch (way) {
            case 0 -> row > 0 ? cell - w : cell;
            case 1 -> column < w - 1 ? cell + 1 : cell;
            case 2 -> row < h - 1 ? cell + w : cell;
            default -> column > 0 ? cell - 1 : cell;
        };
    }

    private static void stepsOnEveryGround() {
        c.part("steps on every ground");
        for (int w = 2; w <= 6; w++) {
            for (int h = 2; h <= 6; h++) {
                for (int cell = 0; cell < w * h; cell++) {
                    for (int look = 0; look < 4; look++) {
                        stepOf("march", w, h, cell, look);
                        stepOf("back", w, h, cell, look);
                    }
                }
            }
        }
    }

    private static void stepOf(String word, int w, int h, int cell, int look) {
        int way = word.equals("march") ? look : (look + 2) % 4;
        int to = stepped(w, h, cell, way);
        TwoArmies x = Checks.told(minuteOf(word, w, h, cell, look));
        String call = word + " from " + cell + " looking " + look + " on " + w + " by " + h;
        c.due(call, x.pass(1), to);
        c.due(call + ": look", x.count(6), look);
        c.due(call + ": mud in all", x.count(9), to == cell ? 0 : 1);
        c.due(call + ": mud there", x.mud(to), to == cell ? 0 : 1);
        for (int wall = 0; wall < 4; wall++) {
            c.due(call + ": wall " + wall, x.count(10 + wall), to == cell && wall == way ? 1 : 0);
        }
    }

    private static void doublesAtTheWall() {
        c.part("double at the wall");
        for (int look = 0; look < 4; look++) {
            for (int cell = 0; cell < 9; cell++) {
                int half = stepped(3, 3, cell, look);
                int whole = stepped(3, 3, half, look);
                TwoArmies x = Checks.told(minuteOf("double", 3, 3, cell, look));
                c.due("double from " + cell + " looking " + look, x.pass(1), whole);
                int steps = (half == cell ? 0 : 1) + (whole == half ? 0 : 1);
                c.due("mud in all", x.count(9), steps);
                c.due("mud between", x.mud(half), half == cell ? 0 : 1);
                c.due("piled up", x.count(10 + look), 2 - steps);
                c.due("at no other wall", x.count(10) + x.count(11) + x.count(12) + x.count(13), 2 - steps);
            }
        }
    }

    private static void quartersToTheRight() {
        c.part("a quarter further to the right");
        for (int look = 0; look < 4; look++) {
            for (int minutes = 1; minutes <= 9; minutes++) {
                TwoArmies x = Checks.told("hour 9;stand 5 " + look + ";turn 0 " + minutes);
                for (int gone = 1; gone <= 9; gone++) {
                    c.due("it stands", x.pass(1), 5);
                    c.due("it looks", x.count(6), (look + Math.min(gone, minutes)) % 4);
                }
                c.due("no mud", x.count(9), 0);
            }
        }
    }

    private static void figuresAreOver() {
        c.part("a figure is over");
        for (int kind = 0; kind < 5; kind++) {
            for (int minutes = 1; minutes <= 9; minutes++) {
                TwoArmies x = Checks.told("hour 9;" + FIGURES[kind] + " 0 " + minutes);
                c.due("nothing is begun", x.count(7), NONE);
                c.due("nothing is left", x.count(8), 0);
                for (int gone = 1; gone <= 9; gone++) {
                    x.pass(1);
                    c.due("begun", x.count(7), gone < minutes ? kind : NONE);
                    c.due("left", x.count(8), Math.max(0, minutes - gone));
                    c.due("one less", x.army(0, 0), 0);
                }
            }
        }
    }

    private static void strokes() {
        c.part("the last minute of an hour");
        for (int m = 2; m <= 9; m++) {
            TwoArmies x = Checks.told("hour " + m);
            for (int gone = 0; gone <= 3 * m; gone++) {
                c.due("hour", x.count(3), gone / m);
                c.due("minute", x.count(4), gone % m);
                c.due("army 0's", x.army(0, 2), gone / m % 2 == 0 ? 1 : 0);
                c.due("army 1's", x.army(1, 2), gone / m % 2 == 1 ? 1 : 0);
                x.pass(1);
            }
            TwoArmies y = Checks.told("hour " + m);
            y.pass(60);
            c.due("hour behind 60", y.count(3), 60 / m);
            c.due("minute behind 60", y.count(4), 60 % m);
        }
    }

    private static void kneelingByTheStroke() {
        c.part("kneeling by the stroke");
        for (int m = 2; m <= 9; m++) {
            for (int minutes = 1; minutes <= 9; minutes++) {
                TwoArmies x = Checks.told("hour " + m + ";kneel 0 " + minutes);
                int[] knelt = new int[2];
                for (int gone = 0; gone < 10; gone++) {
                    if (gone < minutes) {
                        knelt[gone / m % 2]++;
                    }
                    x.pass(1);
                    c.due("0 knelt", x.army(0, 1), knelt[0]);
                    c.due("1 knelt", x.army(1, 1), knelt[1]);
                }
            }
        }
    }

    private static void noFigures() {
        c.part("an army that has no figure");
        TwoArmies x = Checks.told("hour 3;stand 5 1;march 1 2");
        for (int gone = 1; gone <= 3; gone++) {
            c.due("it stands still", x.pass(1), 5);
            c.due("nothing is begun", x.count(7), NONE);
            c.due("the other's waits", x.army(1, 0), 1);
        }
        c.due("nothing piled up, no mud", x.count(9) + x.count(10) + x.count(11) + x.count(12) + x.count(13), 0);
        c.due("then it marches", x.pass(1), 6);
        c.due("and again", x.pass(1), 7);
        c.due("then it stands", x.pass(60), 7);
        c.due("hour", x.count(3), 21);
        c.due("minute", x.count(4), 2);
        c.due("no more mud", x.count(9), 2);
    }

    private static void theNextOneInTheSameHour() {
        c.part("the next one in the same hour");
        TwoArmies x = Checks.told("hour 4;kneel 0 1;turn 0 1;kneel 0 3;turn 1 2;kneel 1 1");
        x.pass(2);
        c.due("two are over", x.army(0, 0), 1);
        c.due("it looks east", x.count(6), 1);
        x.pass(2);
        c.due("0 knelt", x.army(0, 1), 3);
        c.due("one minute is left", x.count(8), 1);
        c.due("army 1 has begun none", x.army(1, 0), 2);
        x.pass(1);
        c.due("1 finishes it", x.army(1, 1), 1);
        c.due("and begins none in that minute", x.army(1, 0), 2);
        x.pass(3);
        c.due("it looks west", x.count(6), 3);
        c.due("1 knelt", x.army(1, 1), 2);
        c.due("hour", x.count(3), 2);
        TwoArmies even = Checks.told("hour 2;kneel 0 2;turn 1 1");
        even.pass(2);
        c.due("over by the stroke", even.count(7), NONE);
        c.due("the enemy has not to kneel", even.army(1, 1), 0);
        even.pass(1);
        c.due("it does its own", even.count(6), 1);
    }

    private static void passes() {
        c.part("pass 1 .. 60");
        for (int n : new int[] {0, -1, 61, 62, -60, MIN, MAX}) {
            TwoArmies x = Checks.told("march 0 3");
            c.due("pass(" + n + ")", x.pass(n), OUTSIDE);
            c.due("nothing went by", x.count(3) + x.count(4) + x.count(15), 0);
            c.due("nothing is begun", x.army(0, 0), 1);
        }
        for (int n = 1; n <= 60; n++) {
            TwoArmies x = Checks.told("hour 7;stand 5 1");
            c.due("pass(" + n + ")", x.pass(n), 5);
            c.due("minutes gone", 7 * x.count(3) + x.count(4), n);
        }
    }

    private static void fullDrills() {
        c.part("8 figures");
        for (int army = 0; army < 2; army++) {
            TwoArmies x = new TwoArmies();
            for (int i = 1; i <= 8; i++) {
                c.due("order", x.order(army, i % 5, i), i);
                c.due("the last one's kind", x.figure(army, i - 1, 0), i % 5);
                c.due("its minutes", x.figure(army, i - 1, 1), i);
                c.due("no one more", x.figure(army, i, 0), UNKNOWN);
            }
            c.due("a ninth", x.order(army, 4, 9), FULL);
            c.due("8", x.army(army, 0), 8);
            c.due("no one more", x.figure(army, 8, 0), UNKNOWN);
            for (int k = 0; k < 8; k++) {
                c.due("minutes of " + k, x.figure(army, k, 1), k + 1);
            }
            c.due("none of the other", x.army(1 - army, 0), 0);
            c.due("one of the other", x.order(1 - army, 4, 9), 1);
        }
    }

    private static void freedByBeginning() {
        c.part("one that is begun is none of the drill");
        TwoArmies x = Checks.told("turn 0 1;turn 0 2;turn 0 3;turn 0 4;turn 0 5;turn 0 6;turn 0 7;turn 0 8");
        c.due("full", x.order(0, 4, 9), FULL);
        x.pass(1);
        c.due("one is free", x.order(0, 4, 9), 8);
        c.due("full again", x.order(0, 4, 8), FULL);
        c.due("it is the last", x.figure(0, 7, 1), 9);
        c.due("the one before", x.figure(0, 6, 1), 8);
        x.undo();
        x.undo();
        c.due("full as before", x.order(0, 4, 9), FULL);
    }

    private static void windings() {
        c.part("the clock wound on by 0 .. 8");
        for (int k : new int[] {-1, 9, 10, -8, MIN, MAX}) {
            TwoArmies x = Checks.told("hour 9");
            c.due("wind(" + k + ")", x.wind(k), OUTSIDE);
            c.due("nothing changes", x.count(3) + x.count(4) + x.count(15), 0);
        }
        for (int m = 2; m <= 9; m++) {
            for (int minute = 0; minute < m; minute++) {
                for (int k = 0; k <= 8; k++) {
                    TwoArmies x = Checks.told("hour " + m);
                    if (minute > 0) {
                        x.pass(minute);
                    }
                    int then = Math.min(minute + k, m);
                    c.due("hour " + m + ", wind(" + k + ") at " + minute, x.wind(k), then / m);
                    c.due("minute", x.count(4), then % m);
                    c.due("hour", x.count(3), then / m);
                }
            }
        }
    }

    private static void windingLeavesTheRest() {
        c.part("winding leaves the rest");
        TwoArmies x = Checks.told("hour 5;stand 5 1;kneel 0 9;turn 1 1");
        x.pass(2);
        for (int k : new int[] {0, 2, 1, 8}) {
            x.wind(k);
            c.due("cell", x.count(5), 5);
            c.due("look", x.count(6), 1);
            c.due("begun", x.count(7), 4);
            c.due("left", x.count(8), 7);
            c.due("0 knelt", x.army(0, 1), 2);
            c.due("1 knelt", x.army(1, 1), 0);
            c.due("drill of 1", x.army(1, 0), 1);
        }
        c.due("two hours on", x.count(3), 2);
        c.due("four can be undone beside the minutes", x.count(15), 5);
    }

    private static void undoneAtMost() {
        c.part("the last 8 can be undone");
        for (int made = 0; made <= 12; made++) {
            TwoArmies x = Checks.told("hour 9");
            for (int i = 0; i < made; i++) {
                x.pass(2);
            }
            int can = Math.min(made, 8);
            c.due("behind " + made, x.count(15), can);
            for (int left = can - 1; left >= 0; left--) {
                c.due("undo", x.undo(), left);
                c.due("count(15)", x.count(15), left);
                c.due("minutes gone", 9 * x.count(3) + x.count(4), 2 * (made - can + left));
            }
            c.due("no more", x.undo(), NOT);
            c.due("no more, again", x.undo(), NOT);
            c.due("minutes gone", 9 * x.count(3) + x.count(4), 2 * (made - can));
            c.due("pass", x.pass(1), 0);
            c.due("one again", x.undo(), 0);
        }
    }

    private static void undoneOneByOne() {
        c.part("each is undone as it was");
        TwoArmies x = Checks.told("ground 3 3;hour 2;stand 4 1;double 0 2;kneel 0 3");
        String[] states = new String[5];
        for (int i = 0; i < 5; i++) {
            states[i] = Checks.stateOf(x);
            switch (i) {
                case 0 -> x.pass(1);
                case 1 -> x.order(1, 4, 2);
                case 2 -> x.wind(1);
                case 3 -> x.pass(3);
                default -> x.wind(0);
            }
        }
        for (int i = 4; i >= 0; i--) {
            c.due("undo", x.undo(), i);
            c.isTrue("as it was before call " + i, states[i].equals(Checks.stateOf(x)));
        }
    }

    private static void whatCannotBeUndone() {
        c.part("what cannot be undone");
        TwoArmies x = new TwoArmies();
        c.due("nothing", x.undo(), NOT);
        x.seen(0, 1);
        x.keep(0);
        x.write('a');
        x.erase();
        x.forget();
        x.pass(0);
        x.wind(9);
        x.order(0, 5, 1);
        c.due("none of these", x.undo(), NOT);
        x.pass(1);
        x.seen(0, 1);
        x.keep(1);
        x.write('a');
        c.due("one", x.undo(), 0);
        c.due("SEEN is as it was", x.count(14), 1);
        c.due("so is THE TEXT", x.count(16), 1);
        c.due("what is kept is", x.back(1), 0);
        c.due("with its minute", x.count(4), 1);
        c.due("back is not undone", x.undo(), NOT);
        x.wind(1);
        x.back(0);
        c.due("behind back nothing is undone", x.undo(), NOT);
        c.due("count(15)", x.count(15), 0);
        x.wind(1);
        c.due("what follows is", x.undo(), 0);
        x.wind(1);
        x.erase();
        Checks.write(x, "hour 4");
        x.parade();
        c.due("behind a text nothing is undone", x.undo(), NOT);
    }

    private static void keptTwo() {
        c.part("two are kept");
        for (int k : new int[] {-1, 2, 3, MIN, MAX}) {
            TwoArmies x = new TwoArmies();
            c.due("keep(" + k + ")", x.keep(k), UNKNOWN);
            c.due("back(" + k + ")", x.back(k), UNKNOWN);
            c.due("nothing is kept", x.back(0), NOT);
            c.due("nothing is kept", x.back(1), NOT);
            x.keep(0);
            x.keep(1);
            c.due("UNKNOWN still", x.back(k), UNKNOWN);
        }
        TwoArmies x = Checks.told("hour 2;stand 5 1;march 0 1;kneel 1 5");
        c.due("keep(0)", x.keep(0), 0);
        c.due("not the other", x.back(1), NOT);
        String first = Checks.stateOf(x);
        x.pass(3);
        c.due("keep(1)", x.keep(1), 1);
        x.pass(4);
        c.due("back(0)", x.back(0), 0);
        c.isTrue("as at first", first.equals(Checks.stateOf(x)));
        c.due("back(1)", x.back(1), 1);
        c.due("1 knelt", x.army(1, 1), 1);
        c.due("0 knelt not", x.army(0, 1), 0);
        x.pass(1);
        c.due("back(0) again", x.back(0), 0);
        c.isTrue("as at first again", first.equals(Checks.stateOf(x)));
        x.wind(8);
        c.due("keep(0) over the first", x.keep(0), 1);
        x.pass(8);
        c.due("back(0)", x.back(0), 1);
        c.due("army 0 has its march yet", x.army(0, 0), 1);
        c.due("the other is kept yet", x.back(1), 1);
        c.due("it marched", x.army(0, 0), 0);
    }

    private static void keptSinceTheLastText() {
        c.part("nothing was kept since the last text");
        TwoArmies x = new TwoArmies();
        c.due("a new object", x.back(0), NOT);
        c.due("a new object", x.back(1), NOT);
        c.due("keep(0)", x.keep(0), 0);
        c.due("before any text", x.back(0), 0);
        x.keep(1);
        Checks.write(x, "hour");
        c.due("a fault", x.parade(), NOT);
        c.due("is no text", x.back(0), 0);
        c.due("is no text", x.back(1), 0);
        Checks.write(x, " 3");
        c.due("parade", x.parade(), 1);
        c.due("a text", x.back(0), NOT);
        c.due("a text", x.back(1), NOT);
        c.due("UNKNOWN ahead of NOT", x.back(2), UNKNOWN);
        c.due("UNKNOWN ahead of NOT", x.back(-1), UNKNOWN);
        c.due("keep(1)", x.keep(1), 0);
        c.due("the other", x.back(0), NOT);
        c.due("back(1)", x.back(1), 0);
    }

    private static void behindATextAllIsAnew() {
        c.part("behind a text all is anew");
        String told = "ground 3 3;hour 5;stand 4 1;march 0 2;kneel 0 4;kneel 1 1";
        for (int gone = 1; gone <= 12; gone++) {
            TwoArmies x = Checks.told(told);
            x.pass(gone);
            x.order(0, 3, 3);
            x.wind(1);
            x.keep(0);
            x.keep(1);
            x.seen(3, 3);
            Checks.write(x, "turn 1 2");
            c.due("parade behind " + gone, x.parade(), 1);
            c.isTrue("as told", Checks.stateOf(x).equals(Checks.stateOf(Checks.told(told + ";turn 1 2"))));
            c.due("mud on the first cell", x.mud(0), 0);
            c.due("nothing is kept", x.back(0), NOT);
            c.due("nothing is kept", x.back(1), NOT);
            c.due("nothing can be undone", x.undo(), NOT);
            c.due("nothing is seen", x.forget(), 0);
        }
    }

    private static void kindsOverOneAnother() {
        c.part("kinds over one another");
        int[][] due = {
            {1, 1, NOT, NOT, NOT, NOT},
            {1, 1, 1, NOT, NOT, NOT},
            {2, 2, NOT, 2, NOT, NOT},
            {0, NOT, NOT, NOT, 0, NOT},
            {0, NOT, NOT, NOT, NOT, 0}};
        for (int army = 0; army < 2; army++) {
            for (int next = 0; next < 5; next++) {
                for (int second = 0; second < 5; second++) {
                    TwoArmies x = new TwoArmies();
                    x.order(army, next, 9);
                    x.order(army, second, 9);
                    for (int as = 0; as <= 5; as++) {
                        c.due(FIGURES[next] + " as " + as, x.as(army, as), due[next][as]);
                        c.due("none as " + as, x.as(1 - army, as), NOT);
                    }
                    c.due("no such kind", x.as(army, 6), OUTSIDE);
                    c.due("no such kind", x.as(army, -1), OUTSIDE);
                }
            }
        }
    }

    private static void asOfNoFigure() {
        c.part("as, of no figure");
        TwoArmies x = Checks.told("double 0 9;kneel 0 1");
        c.due("the next one", x.as(0, 3), 2);
        x.pass(1);
        c.due("not the one that is begun", x.as(0, 3), NOT);
        c.due("the one behind it", x.as(0, 5), 0);
        x.pass(9);
        c.due("none is left", x.as(0, 0), NOT);
        c.due("OUTSIDE ahead of NOT", x.as(0, 6), OUTSIDE);
        c.due("UNKNOWN ahead of both", x.as(2, 6), UNKNOWN);
    }

    /** Hours of 2: 33 times 60 minutes are 990 hours. */
    private static TwoArmies atHour990() {
        TwoArmies x = Checks.told("hour 2;turn 0 1");
        for (int i = 0; i < 33; i++) {
            x.pass(60);
        }
        c.due("hour", x.count(3), 990);
        return x;
    }

    private static void hoursAbove999() {
        c.part("hours above 999");
        TwoArmies x = atHour990();
        x.pass(18);
        c.due("hour", x.count(3), 999);
        c.due("its first minute is no FULL", x.pass(1), 0);
        c.due("its second neither", x.pass(1), 0);
        c.due("hour", x.count(3), 1000);
        String before = Checks.stateOf(x);
        c.due("pass(1)", x.pass(1), FULL);
        c.due("pass(60)", x.pass(60), FULL);
        c.due("OUTSIDE ahead of FULL", x.pass(0), OUTSIDE);
        c.due("OUTSIDE ahead of FULL", x.pass(61), OUTSIDE);
        c.due("OUTSIDE ahead of FULL", x.pass(MIN), OUTSIDE);
        c.isTrue("nothing changed", before.equals(Checks.stateOf(x)));
        c.due("an order", x.order(1, 4, 2), 1);
        c.due("behind hour 1000", x.behind(2, 4), 0);
        c.due("behind hour 1001's first minute", x.behind(3, 4), 1);
        c.due("behind hour 1001", x.behind(4, 4), 2);
        c.due("first is told", x.first(1), 3);
        c.due("undo the order", x.undo(), 7);
        c.due("undo the last minute", x.undo(), 6);
        c.due("hour", x.count(3), 999);
        c.due("minute", x.count(4), 1);
        c.due("60 minutes from there", x.pass(60), 0);
        c.due("hour", x.count(3), 1029);
        c.due("minute", x.count(4), 1);
        c.due("no more", x.pass(1), FULL);
    }

    private static void hoursAbove999ByWinding() {
        c.part("hours above 999, wound on");
        TwoArmies x = atHour990();
        for (int hour = 991; hour <= 1010; hour++) {
            c.due("wind(8)", x.wind(8), hour);
            c.due("army of an odd hour", x.army(1, 2), hour % 2);
        }
        c.due("pass(1)", x.pass(1), FULL);
        c.due("wind(0)", x.wind(0), 1010);
        c.due("wind(9)", x.wind(9), OUTSIDE);
        Checks.write(x, "hour 2");
        c.due("a text", x.parade(), 1);
        c.due("hour 0", x.count(3), 0);
        c.due("minutes go by again", x.pass(1), 0);
    }

    private static void backFromAbove999() {
        c.part("back from above 999");
        TwoArmies x = atHour990();
        x.keep(0);
        x.pass(60);
        c.due("hour", x.count(3), 1020);
        c.due("keep(1)", x.keep(1), 1020);
        c.due("pass", x.pass(1), FULL);
        c.due("back(0)", x.back(0), 990);
        c.due("pass", x.pass(1), 0);
        c.due("back(1)", x.back(1), 1020);
        c.due("pass", x.pass(1), FULL);
    }
}
