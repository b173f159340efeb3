/** Each promise of the document: ordinary inputs, the edges that it names, wrong inputs. */
public final class PromisesTest {
    private static final int NONE = -1, UNKNOWN = -2, OUTSIDE = -3, NOT = -4, FULL = -5;
    private static final Checks c = new Checks();

    public static void main(String[] args) {
        newObject();
        write();
        erase();
        faultWords();
        faultNumbers();
        faultBounds();
        faultLimits();
        parade();
        paradeAnew();
        mud();
        figure();
        army();
        as();
        passSteps();
        passHours();
        passFull();
        order();
        wind();
        undo();
        keepAndBack();
        behind();
        first();
        plot();
        plotRefused();
        seenAndForget();
        wound();
        ordered();
        inspected();
        count();
        c.finish();
    }

    private static void newObject() {
        c.part("1 a new object");
        TwoArmies x = new TwoArmies();
        int[] due = {4, 4, 4, 0, 0, 0, 0, NONE, 0, 0, 0, 0, 0, 0, 0, 0, 0};
        for (int what = 0; what < due.length; what++) {
            c.due("count(" + what + ")", x.count(what), due[what]);
        }
        for (int army = 0; army < 2; army++) {
            c.due("army(" + army + ", 0)", x.army(army, 0), 0);
            c.due("army(" + army + ", 1)", x.army(army, 1), 0);
        }
        c.due("undo", x.undo(), NOT);
        c.due("back(0)", x.back(0), NOT);
        c.due("back(1)", x.back(1), NOT);
        TwoArmies other = new TwoArmies();
        other.order(0, 0, 1);
        c.due("another object's orders", x.army(0, 0), 0);
    }

    private static void write() {
        c.part("2 write");
        TwoArmies x = new TwoArmies();
        c.due("write(-1)", x.write(-1), OUTSIDE);
        c.due("write(256)", x.write(256), OUTSIDE);
        c.due("write(min)", x.write(Integer.MIN_VALUE), OUTSIDE);
        c.due("write(max)", x.write(Integer.MAX_VALUE), OUTSIDE);
        c.due("count(16)", x.count(16), 0);
        c.due("write(0)", x.write(0), 1);
        c.due("write(255)", x.write(255), 2);
        for (int i = 3; i <= 160; i++) {
            c.due("write", x.write('a'), i);
        }
        c.due("write", x.write('a'), FULL);
        c.due("OUTSIDE comes ahead of FULL", x.write(256), OUTSIDE);
        c.due("count(16)", x.count(16), 160);
    }

    private static void erase() {
        c.part("3 erase");
        TwoArmies x = new TwoArmies();
        c.due("erase", x.erase(), 0);
        Checks.write(x, "hour 3");
        c.due("erase", x.erase(), 6);
        c.due("erase", x.erase(), 0);
        c.due("count(16)", x.count(16), 0);
        c.due("write", x.write('h'), 1);
        c.due("nothing is told", x.count(2), 4);
    }

    private static void fault(String text, int due) {
        c.due("fault of '" + text + "'", Checks.faultOf(text), due);
    }

    private static void faultWords() {
        c.part("4 fault, words");
        fault("", 0);
        fault("   ", 3);
        fault("ground 5 3", NONE);
        fault("stand 15 3", NONE);
        fault("hour 9", NONE);
        fault("march 0 1", NONE);
        fault("back 1 9", NONE);
        fault("double 0 2", NONE);
        fault("turn 1 3", NONE);
        fault("kneel 0 4", NONE);
        fault("rest 1", NONE);
        fault("rest", 4);
        fault("rest  ", 6);
        fault("rest 1 1", 7);
        fault("rest 1 rest 0", 7);
        fault("rest 1;", 7);
        fault("rest 1; ", 8);
        fault(";rest 1", 0);
        fault("rest 1;;rest 0", 7);
        fault("  rest   1  ;  rest 0  ", NONE);
        fault("rest1;rest0", NONE);
        fault("restx 1", 0);
        fault("resta 1", 0);
        fault("restz 1", 0);
        fault("rest`1", 4);
        fault("rest{1", 4);
        fault("rest 1/", 6);
        fault("rest 1:", 6);
        fault("res 1", 0);
        fault("Rest 1", 0);
        fault("rEst 1", 0);
        fault("rest\t1", 4);
        fault("rest 1.", 6);
        fault("rest ;", 5);
        fault("rest rest", 5);
        fault("rest -1", 5);
        fault("4 4", 0);
        fault("rest 1;halt", 7);
    }

    private static void faultNumbers() {
        c.part("4 fault, numbers");
        fault("rest 00", NONE);
        fault("rest 01", NONE);
        fault("rest 001", 5);
        fault("rest 000", 5);
        fault("march 0 09", NONE);
        fault("march 0 009", 8);
        fault("march 0 100", 8);
        fault("march 0", 7);
        fault("march 0;", 7);
        fault("march 0 1a", 9);
        fault("march 0 a", 8);
        fault("ground 3", 8);
        fault("ground 3;", 8);
        fault("ground 3 3 3", 11);
        fault("stand 1234 1", 6);
    }

    private static void faultBounds() {
        c.part("4 fault, bounds");
        fault("ground 1 3", 7);
        fault("ground 7 3", 7);
        fault("ground 2 6", NONE);
        fault("ground 6 2", NONE);
        fault("ground 3 1", 9);
        fault("ground 3 7", 9);
        fault("stand 0 0", NONE);
        fault("stand 16 0", 6);
        fault("stand 0 4", 8);
        fault("ground 6 6;stand 35 3", NONE);
        fault("ground 6 6;stand 36 3", 17);
        fault("ground 2 3;stand 5 0", NONE);
        fault("ground 2 3;stand 6 0", 17);
        fault("stand 15 0;ground 2 3", NONE);
        fault("hour 1", 5);
        fault("hour 2", NONE);
        fault("hour 10", 5);
        fault("march 2 1", 6);
        fault("march 0 0", 8);
        fault("kneel 1 10", 8);
        fault("turn 10 1", 5);
        fault("rest 2", 5);
        TwoArmies x = Checks.told("ground 2 2");
        Checks.write(x, "stand 4 0");
        c.due("a cell that an earlier text's ground has not", x.fault(), 6);
    }

    private static void faultLimits() {
        c.part("4 fault, limits");
        String eight = "march 0 1;back 0 1;turn 0 1;kneel 0 1;double 0 1;march 0 1;march 0 1;march 0 1";
        fault(eight, NONE);
        fault(eight + ";turn 0 1", eight.length() + 6);
        fault(eight + ";turn 0 99", eight.length() + 6);
        fault(eight + ";turn 1 1", NONE);
        fault(eight + ";rest 0;turn 0 1", NONE);
        fault(eight + ";rest 1;turn 0 1", eight.length() + 13);
        fault(eight + ";ground 4 4;turn 0 1", NONE);
        TwoArmies x = Checks.told(eight);
        Checks.write(x, "march 0 1");
        c.due("a ninth beyond earlier texts", x.fault(), 6);
        x.pass(9);
        c.due("told figures count, not those left", x.fault(), 6);
        TwoArmies y = Checks.told("rest 0");
        for (int i = 0; i < 8; i++) {
            y.order(0, 0, 1);
        }
        Checks.write(y, "march 0 1");
        c.due("ordered figures do not count", y.fault(), NONE);
        c.due("fault changes nothing", y.count(16), 9);
        StringBuilder clauses = new StringBuilder("rest 0");
        for (int i = 1; i < 14; i++) {
            clauses.append(";rest 1");
        }
        fault(clauses.toString(), NONE);
        fault(clauses + "  ", NONE);
        fault(clauses + ";rest 1", clauses.length());
        fault(clauses + ";", clauses.length());
        fault(clauses + " 1", clauses.length() + 1);
        fault(" ".repeat(160), 160);
        fault("rest" + " ".repeat(156), 160);
        fault("a".repeat(160), 0);
        fault(" ".repeat(154) + "rest 1", NONE);
        fault(" ".repeat(155) + "rest 1", 160);
        fault("rest 1" + " ".repeat(153) + ";", 160);
    }

    private static void parade() {
        c.part("5 parade");
        TwoArmies x = new TwoArmies();
        c.due("parade of nothing", x.parade(), NOT);
        Checks.write(x, "hour 3;stand 99 1");
        c.due("parade with a fault", x.parade(), NOT);
        c.due("the text stays", x.count(16), 17);
        c.due("nothing is done", x.count(2), 4);
        x.erase();
        Checks.write(x, "rest 0");
        c.due("parade", x.parade(), 1);
        c.due("nothing is left of the faulty text", x.count(2), 4);
        Checks.write(x, "ground 3 2;hour 5;stand 4 2;kneel 1 7;turn 0 2");
        c.due("fault", x.fault(), NONE);
        c.due("fault", x.fault(), NONE);
        c.due("parade", x.parade(), 5);
        c.due("each clause is done once", x.army(1, 0), 1);
        c.due("the text is empty", x.count(16), 0);
        int[] due = {3, 2, 5, 0, 0, 4, 2};
        for (int what = 0; what < due.length; what++) {
            c.due("count(" + what + ")", x.count(what), due[what]);
        }
        c.due("figure(1, 0, 0)", x.figure(1, 0, 0), 4);
        c.due("figure(1, 0, 1)", x.figure(1, 0, 1), 7);
        Checks.write(x, "march 0 9");
        c.due("parade", x.parade(), 1);
        c.due("the earlier ground stays", x.count(0), 3);
        c.due("the earlier hour stays", x.count(2), 5);
        c.due("the earlier stand stays", x.count(5), 4);
        c.due("the earlier look stays", x.count(6), 2);
        c.due("the earlier figure stays", x.figure(0, 0, 0), 3);
        c.due("a figure more", x.figure(0, 1, 1), 9);
        Checks.write(x, "rest 0;back 0 2");
        c.due("parade", x.parade(), 2);
        c.due("rest", x.army(0, 0), 1);
        c.due("the other rests not", x.army(1, 0), 1);
        Checks.write(x, "ground 5 6");
        c.due("parade", x.parade(), 1);
        int[] anew = {5, 6, 4, 0, 0, 0, 0};
        for (int what = 0; what < anew.length; what++) {
            c.due("count(" + what + ")", x.count(what), anew[what]);
        }
        c.due("no figures of 0", x.army(0, 0), 0);
        c.due("no figures of 1", x.army(1, 0), 0);
    }

    private static void paradeAnew() {
        c.part("5 parade anew");
        TwoArmies x = Checks.told("hour 2;stand 5 0;march 0 2;kneel 0 2;kneel 1 3");
        x.pass(4);
        x.order(1, 3, 3);
        x.wind(1);
        x.keep(0);
        x.keep(1);
        x.seen(3, 3);
        c.due("mud", x.count(9), 1);
        c.due("piled up", x.count(10), 1);
        c.due("begun", x.count(7), 4);
        Checks.write(x, "turn 1 1");
        c.due("parade", x.parade(), 1);
        int[] due = {4, 4, 2, 0, 0, 5, 0, NONE, 0, 0, 0, 0, 0, 0, 0, 0, 0};
        for (int what = 0; what < due.length; what++) {
            c.due("count(" + what + ")", x.count(what), due[what]);
        }
        c.due("drill 0 is as told", x.army(0, 0), 2);
        c.due("drill 1 is as told", x.army(1, 0), 2);
        c.due("its last one", x.figure(1, 1, 0), 3);
        c.due("nobody knelt", x.army(0, 1) + x.army(1, 1), 0);
        c.due("back(0)", x.back(0), NOT);
        c.due("back(1)", x.back(1), NOT);
        c.due("undo", x.undo(), NOT);
        c.due("forget", x.forget(), 0);
    }

    private static void mud() {
        c.part("6 mud");
        TwoArmies x = Checks.told("ground 3 2;stand 3 1;double 0 1;back 0 2;march 1 1");
        c.due("mud(-1)", x.mud(-1), UNKNOWN);
        c.due("mud(6)", x.mud(6), UNKNOWN);
        c.due("mud(min)", x.mud(Integer.MIN_VALUE), UNKNOWN);
        c.due("mud(max)", x.mud(Integer.MAX_VALUE), UNKNOWN);
        c.due("mud(3) at first", x.mud(3), 0);
        c.due("pass(1)", x.pass(1), 5);
        c.due("mud(3)", x.mud(3), 0);
        c.due("mud(4)", x.mud(4), 1);
        c.due("mud(5)", x.mud(5), 1);
        c.due("pass(2)", x.pass(2), 3);
        c.due("mud(3)", x.mud(3), 1);
        c.due("mud(4)", x.mud(4), 2);
        c.due("mud(5)", x.mud(5), 1);
        c.due("pass(2)", x.pass(2), 4);
        c.due("mud(4)", x.mud(4), 3);
        c.due("mud(0)", x.mud(0), 0);
    }

    private static void figure() {
        c.part("7 figure");
        TwoArmies x = Checks.told("march 0 9;back 0 8;double 0 7;turn 0 6;kneel 0 5;kneel 1 1");
        for (int k = 0; k < 5; k++) {
            c.due("kind of " + k, x.figure(0, k, 0), k);
            c.due("minutes of " + k, x.figure(0, k, 1), 9 - k);
        }
        c.due("figure(0, 5, 0)", x.figure(0, 5, 0), UNKNOWN);
        c.due("figure(0, -1, 0)", x.figure(0, -1, 0), UNKNOWN);
        c.due("figure(0, max, 0)", x.figure(0, Integer.MAX_VALUE, 0), UNKNOWN);
        c.due("figure(1, 1, 0)", x.figure(1, 1, 0), UNKNOWN);
        c.due("figure(2, 0, 0)", x.figure(2, 0, 0), UNKNOWN);
        c.due("figure(-1, 0, 0)", x.figure(-1, 0, 0), UNKNOWN);
        c.due("figure(0, 0, 2)", x.figure(0, 0, 2), OUTSIDE);
        c.due("figure(0, 0, -1)", x.figure(0, 0, -1), OUTSIDE);
        c.due("UNKNOWN comes ahead of OUTSIDE", x.figure(0, 5, 2), UNKNOWN);
        x.pass(1);
        c.due("the next one", x.figure(0, 0, 0), 1);
        c.due("its minutes", x.figure(0, 0, 1), 8);
        c.due("one less", x.figure(0, 4, 0), UNKNOWN);
    }

    private static void army() {
        c.part("8 army");
        TwoArmies x = Checks.told("hour 2;kneel 0 3;turn 0 1;kneel 1 2");
        c.due("army(0, 0)", x.army(0, 0), 2);
        c.due("army(1, 0)", x.army(1, 0), 1);
        c.due("army(0, 2)", x.army(0, 2), 1);
        c.due("army(1, 2)", x.army(1, 2), 0);
        x.pass(3);
        c.due("army(0, 0)", x.army(0, 0), 1);
        c.due("army(0, 1)", x.army(0, 1), 2);
        c.due("the enemy finishes", x.army(1, 1), 1);
        c.due("army(0, 2)", x.army(0, 2), 0);
        c.due("army(1, 2)", x.army(1, 2), 1);
        x.pass(2);
        c.due("army(0, 1)", x.army(0, 1), 3);
        c.due("army(1, 1)", x.army(1, 1), 2);
        c.due("army(0, 2)", x.army(0, 2), 1);
        c.due("army(2, 0)", x.army(2, 0), UNKNOWN);
        c.due("army(-1, 0)", x.army(-1, 0), UNKNOWN);
        c.due("army(0, 3)", x.army(0, 3), OUTSIDE);
        c.due("army(0, -1)", x.army(0, -1), OUTSIDE);
        c.due("UNKNOWN comes ahead of OUTSIDE", x.army(2, 3), UNKNOWN);
    }

    private static void as() {
        c.part("9 as");
        int[][] due = {
            {1, 1, NOT, NOT, NOT, NOT},
            {1, 1, 1, NOT, NOT, NOT},
            {2, 2, NOT, 2, NOT, NOT},
            {0, NOT, NOT, NOT, 0, NOT},
            {0, NOT, NOT, NOT, NOT, 0}};
        for (int kind = 0; kind < due.length; kind++) {
            TwoArmies x = new TwoArmies();
            x.order(1, kind, 1);
            x.order(1, 4 - kind, 1);
            for (int as = 0; as < 6; as++) {
                c.due("kind " + kind + " as " + as, x.as(1, as), due[kind][as]);
                c.due("none as " + as, x.as(0, as), NOT);
            }
            c.due("as(1, 6)", x.as(1, 6), OUTSIDE);
            c.due("as(1, -1)", x.as(1, -1), OUTSIDE);
        }
        TwoArmies x = new TwoArmies();
        c.due("OUTSIDE comes ahead of NOT", x.as(0, 6), OUTSIDE);
        c.due("UNKNOWN comes ahead of OUTSIDE", x.as(2, 6), UNKNOWN);
        c.due("as(-1, 0)", x.as(-1, 0), UNKNOWN);
    }

    private static void passSteps() {
        c.part("10 pass, steps");
        int[] marched = {1, 6, 9, 4};
        int[] backed = {9, 4, 1, 6};
        for (int look = 0; look < 4; look++) {
            TwoArmies x = Checks.told("stand 5 " + look + ";march 0 1");
            c.due("march looking " + look, x.pass(1), marched[look]);
            TwoArmies y = Checks.told("stand 5 " + look + ";back 0 1");
            c.due("back looking " + look, y.pass(1), backed[look]);
            c.due("it looks as before", y.count(6), look);
            TwoArmies z = Checks.told("stand 5 " + look + ";turn 0 2");
            c.due("turn looking " + look, z.pass(1), 5);
            c.due("it looks on", z.count(6), (look + 1) % 4);
            TwoArmies wall = Checks.told("ground 2 2;hour 9;stand 0 " + look + ";double 0 3");
            wall.pass(3);
            boolean inside = look == 1 || look == 2;
            c.due("piled up there", wall.count(10 + look), inside ? 5 : 6);
            c.due("mud in all", wall.count(9), inside ? 1 : 0);
            TwoArmies other = Checks.told("ground 2 2;hour 9;stand 0 " + look + ";back 0 3");
            other.pass(3);
            c.due("piled up behind", other.count(10 + (look + 2) % 4), inside ? 3 : 2);
        }
        TwoArmies x = Checks.told("ground 3 2;stand 2 1;march 0 1;turn 0 1;march 0 1");
        c.due("no step into the next row", x.pass(1), 2);
        c.due("piled up east", x.count(11), 1);
        c.due("no mud by no step", x.mud(2), 0);
        c.due("south", x.pass(2), 5);
        TwoArmies d = Checks.told("ground 2 4;stand 4 0;double 0 2");
        c.due("double", d.pass(1), 0);
        c.due("mud between", d.mud(2), 1);
        c.due("double again", d.pass(1), 0);
        c.due("both steps pile up", d.count(10), 2);
        c.due("mud in all", d.count(9), 2);
        TwoArmies half = Checks.told("ground 2 3;stand 2 0;double 0 1");
        c.due("half a double", half.pass(1), 0);
        c.due("the other half piles up", half.count(10), 1);
    }

    private static void passHours() {
        c.part("10 pass, hours");
        TwoArmies x = Checks.told("hour 3;stand 12 0;march 0 4;turn 0 1;kneel 1 4;back 1 1");
        c.due("pass(2)", x.pass(2), 4);
        c.due("minute", x.count(4), 2);
        c.due("hour", x.count(3), 0);
        c.due("left", x.count(8), 2);
        c.due("pass(1)", x.pass(1), 0);
        c.due("hour", x.count(3), 1);
        c.due("minute", x.count(4), 0);
        c.due("begun", x.count(7), 0);
        c.due("left", x.count(8), 1);
        c.due("the enemy finishes it", x.pass(1), 0);
        c.due("at the wall", x.count(10), 1);
        c.due("nothing is begun", x.count(7), NONE);
        x.pass(2);
        c.due("1 knelt", x.army(1, 1), 2);
        c.due("left", x.count(8), 2);
        x.pass(2);
        c.due("0 had to kneel", x.army(0, 1), 2);
        c.due("1 knelt", x.army(1, 1), 2);
        c.due("its own figure waits", x.army(0, 0), 1);
        x.pass(1);
        c.due("then it turns", x.count(6), 1);
        c.due("back", x.pass(1), 0);
        c.due("piled up west", x.count(13), 1);
        c.due("it stands still", x.pass(60), 0);
        c.due("hour", x.count(3), 23);
        c.due("minute", x.count(4), 1);
        TwoArmies wait = Checks.told("hour 2;kneel 1 1");
        wait.pass(2);
        c.due("only in its own hour", wait.army(1, 1), 0);
        wait.pass(1);
        c.due("in its hour", wait.army(1, 1), 1);
    }

    private static void passFull() {
        c.part("10 pass, full");
        TwoArmies x = Checks.told("hour 2");
        c.due("pass(0)", x.pass(0), OUTSIDE);
        c.due("pass(61)", x.pass(61), OUTSIDE);
        c.due("pass(-1)", x.pass(-1), OUTSIDE);
        c.due("pass(max)", x.pass(Integer.MAX_VALUE), OUTSIDE);
        c.due("nothing changes", x.count(15), 0);
        for (int i = 0; i < 33; i++) {
            c.due("pass(60)", x.pass(60), 0);
        }
        c.due("hour", x.count(3), 990);
        c.due("pass(19)", x.pass(19), 0);
        c.due("hour 999 is not above 999", x.count(3), 999);
        c.due("pass(1)", x.pass(1), 0);
        c.due("hour", x.count(3), 1000);
        c.due("pass(1)", x.pass(1), FULL);
        c.due("OUTSIDE comes ahead of FULL", x.pass(0), OUTSIDE);
        c.due("wind", x.wind(8), 1001);
        c.due("undo", x.undo(), 7);
        c.due("undo", x.undo(), 6);
        c.due("pass(60) from hour 999", x.pass(60), 0);
        c.due("hour", x.count(3), 1029);
        c.due("behind is still told", x.behind(99, 0), 0);
    }

    private static void order() {
        c.part("11 order");
        TwoArmies x = Checks.told("march 0 1");
        c.due("order", x.order(0, 4, 9), 2);
        c.due("at the end", x.figure(0, 1, 0), 4);
        c.due("its minutes", x.figure(0, 1, 1), 9);
        c.due("order(2, 0, 1)", x.order(2, 0, 1), UNKNOWN);
        c.due("order(-1, 0, 1)", x.order(-1, 0, 1), UNKNOWN);
        c.due("UNKNOWN comes ahead of OUTSIDE", x.order(2, 9, 1), UNKNOWN);
        c.due("order(0, -1, 1)", x.order(0, -1, 1), OUTSIDE);
        c.due("order(0, 5, 1)", x.order(0, 5, 1), OUTSIDE);
        c.due("order(0, 0, 0)", x.order(0, 0, 0), OUTSIDE);
        c.due("order(0, 0, 10)", x.order(0, 0, 10), OUTSIDE);
        c.due("what is refused is not undone", x.count(15), 1);
        for (int i = 3; i <= 8; i++) {
            c.due("order", x.order(0, 0, 1), i);
        }
        c.due("order", x.order(0, 0, 1), FULL);
        c.due("OUTSIDE comes ahead of FULL", x.order(0, 5, 1), OUTSIDE);
        c.due("of the other", x.order(1, 3, 2), 1);
        x.pass(1);
        c.due("one was begun", x.order(0, 1, 1), 8);
        c.due("at the end", x.figure(0, 7, 0), 1);
    }

    private static void wind() {
        c.part("12 wind");
        TwoArmies x = Checks.told("hour 5;kneel 0 3");
        c.due("wind(-1)", x.wind(-1), OUTSIDE);
        c.due("wind(9)", x.wind(9), OUTSIDE);
        c.due("wind(0)", x.wind(0), 0);
        c.due("wind(4)", x.wind(4), 0);
        c.due("minute", x.count(4), 4);
        c.due("no figure is done", x.army(0, 0), 1);
        c.due("wind(1)", x.wind(1), 1);
        c.due("minute", x.count(4), 0);
        c.due("wind(2)", x.wind(2), 1);
        c.due("wind(8)", x.wind(8), 2);
        c.due("at its first minute at the latest", x.count(4), 0);
        c.due("only refused ones do not count", x.count(15), 5);
        x.pass(1);
        c.due("wind(8)", x.wind(8), 3);
        x.pass(1);
        c.due("0 knelt", x.army(0, 1), 1);
        c.due("the enemy goes on", x.army(1, 1), 1);
        TwoArmies y = Checks.told("hour 2");
        c.due("wind(8) of 2 minutes", y.wind(8), 1);
    }

    private static void undo() {
        c.part("13 undo");
        TwoArmies x = Checks.told("stand 5 1;double 0 2;kneel 0 2");
        c.due("undo", x.undo(), NOT);
        x.pass(1);
        x.pass(2);
        x.wind(8);
        x.order(1, 0, 1);
        x.seen(1, 1);
        c.due("count(15)", x.count(15), 4);
        c.due("undo the order", x.undo(), 3);
        c.due("no order", x.army(1, 0), 0);
        c.due("SEEN stays", x.count(14), 1);
        c.due("undo the winding", x.undo(), 2);
        c.due("hour", x.count(3), 0);
        c.due("minute", x.count(4), 3);
        c.due("undo two minutes", x.undo(), 1);
        c.due("cell", x.count(5), 7);
        c.due("piled up", x.count(11), 0);
        c.due("knelt", x.army(0, 1), 0);
        c.due("left", x.count(8), 1);
        c.due("begun", x.count(7), 2);
        c.due("drill", x.army(0, 0), 1);
        c.due("mud", x.count(9), 2);
        c.due("undo a minute", x.undo(), 0);
        c.due("cell", x.count(5), 5);
        c.due("mud", x.count(9), 0);
        c.due("drill", x.army(0, 0), 2);
        c.due("undo", x.undo(), NOT);
        for (int i = 1; i <= 10; i++) {
            x.wind(i == 10 ? 0 : 8);
        }
        c.due("count(15)", x.count(15), 8);
        for (int i = 7; i >= 0; i--) {
            c.due("undo", x.undo(), i);
        }
        c.due("the last 8 alone", x.count(3), 2);
        c.due("undo", x.undo(), NOT);
        x.wind(8);
        Checks.write(x, "zz");
        c.due("undo", x.undo(), 0);
        c.due("the text stays", x.count(16), 2);
    }

    private static void keepAndBack() {
        c.part("14, 15 keep and back");
        TwoArmies x = Checks.told("hour 2;stand 5 1;march 0 3;kneel 1 2");
        c.due("keep(2)", x.keep(2), UNKNOWN);
        c.due("keep(-1)", x.keep(-1), UNKNOWN);
        c.due("back(2)", x.back(2), UNKNOWN);
        c.due("back(-1)", x.back(-1), UNKNOWN);
        c.due("back(0)", x.back(0), NOT);
        x.pass(2);
        c.due("keep(1)", x.keep(1), 1);
        c.due("back(0)", x.back(0), NOT);
        c.due("keep changes nothing", x.count(15), 1);
        x.pass(2);
        x.order(0, 1, 1);
        c.due("keep(0)", x.keep(0), 2);
        x.pass(5);
        x.seen(2, 2);
        c.due("back(1)", x.back(1), 1);
        int[] due = {4, 4, 2, 1, 0, 7, 1, 0, 1, 2, 0, 0, 0, 0, 1, 0, 0};
        for (int what = 0; what < due.length; what++) {
            c.due("count(" + what + ")", x.count(what), due[what]);
        }
        c.due("undo", x.undo(), NOT);
        c.due("drill 0", x.army(0, 0), 0);
        c.due("drill 1", x.army(1, 0), 1);
        c.due("nobody knelt", x.army(1, 1), 0);
        x.pass(1);
        c.due("back(1) again", x.back(1), 1);
        c.due("it is kept yet", x.count(4), 0);
        c.due("back(0)", x.back(0), 2);
        c.due("piled up", x.count(11), 1);
        c.due("drill 0", x.army(0, 0), 1);
        c.due("knelt", x.army(1, 1), 1);
        c.due("mud(7)", x.mud(7), 1);
        x.wind(8);
        c.due("keep(0) anew", x.keep(0), 3);
        x.undo();
        c.due("undo leaves what is kept", x.back(0), 3);
        Checks.write(x, "hour 99");
        c.due("a faulty text", x.parade(), NOT);
        c.due("leaves what is kept", x.back(1), 1);
        c.due("the text is not kept", x.count(16), 7);
    }

    private static void behind() {
        c.part("16 behind");
        TwoArmies x = Checks.told("hour 2;stand 8 0;march 0 3;turn 0 2;kneel 1 3;back 1 1");
        c.due("behind(-1, 0)", x.behind(-1, 0), OUTSIDE);
        c.due("behind(100, 0)", x.behind(100, 0), OUTSIDE);
        c.due("behind(0, 5)", x.behind(0, 5), OUTSIDE);
        c.due("behind(0, -1)", x.behind(0, -1), OUTSIDE);
        // minutes: march, march | march at the wall, kneel 1 | kneel 0, kneel 0 | back, none | turn, turn
        int[] cells = {8, 4, 0, 0, 0, 0, 0, 4, 4, 4, 4};
        int[] looks = {0, 0, 0, 0, 0, 0, 0, 0, 0, 1, 2};
        int[] mud = {0, 1, 1, 1, 1, 1, 1, 2, 2, 2, 2};
        int[] knelt0 = {0, 0, 0, 0, 0, 1, 2, 2, 2, 2, 2};
        int[] knelt1 = {0, 0, 0, 0, 1, 1, 1, 1, 1, 1, 1};
        for (int n = 0; n < cells.length; n++) {
            c.due("cell behind " + n, x.behind(n, 0), cells[n]);
            c.due("look behind " + n, x.behind(n, 1), looks[n]);
            c.due("mud behind " + n, x.behind(n, 2), mud[n]);
            c.due("0 knelt behind " + n, x.behind(n, 3), knelt0[n]);
            c.due("1 knelt behind " + n, x.behind(n, 4), knelt1[n]);
        }
        c.due("behind(99, 0)", x.behind(99, 0), 4);
        c.due("nothing changes", x.count(3) + x.count(9) + x.count(15), 0);
        c.due("no figure is begun", x.army(0, 0), 2);
        TwoArmies low = Checks.told("ground 2 6;stand 0 2;march 0 9");
        c.due("a ground of six rows", low.behind(9, 0), 10);
        TwoArmies wide = Checks.told("ground 6 2;stand 0 1;march 0 9");
        c.due("a ground of six columns", wide.behind(9, 0), 5);
        x.pass(5);
        c.due("what was knelt counts too", x.behind(0, 4), 1);
        c.due("and what is to come", x.behind(1, 3), 2);
    }

    private static void first() {
        c.part("17 first");
        TwoArmies x = Checks.told("hour 2;turn 0 1;kneel 0 4");
        c.due("first(0)", x.first(0), 2);
        c.due("first(1)", x.first(1), 3);
        x.pass(1);
        c.due("this one", x.first(0), 1);
        x.pass(1);
        c.due("first(0)", x.first(0), 3);
        c.due("first(1)", x.first(1), 1);
        x.pass(3);
        c.due("no more", x.first(0), NONE);
        c.due("no more", x.first(1), NONE);
        c.due("first(2)", x.first(2), UNKNOWN);
        c.due("first(-1)", x.first(-1), UNKNOWN);
        // army 0 has the minutes 1 .. 9, 19 .. 27, .., 91 .. 99
        TwoArmies y = Checks.told("hour 9;turn 0 9;turn 0 9;turn 0 9;turn 0 9;turn 0 9;kneel 0 9");
        c.due("in minute 91", y.first(0), 91);
        c.due("the enemy has not to", y.first(1), NONE);
        y.order(1, 3, 9);
        c.due("still", y.first(0), 91);
        TwoArmies z = Checks.told("hour 9;turn 0 9;turn 0 9;turn 0 9;turn 0 9;turn 0 9;turn 0 8;kneel 0 1");
        c.due("in minute 99", z.first(0), 99);
        TwoArmies late = Checks.told("hour 9;turn 0 9;turn 0 9;turn 0 9;turn 0 9;turn 0 9;turn 0 9;kneel 0 1");
        c.due("beyond 99", late.first(0), NONE);
        c.due("nothing changes", late.army(0, 0), 7);
    }

    private static void plotIs(TwoArmies x, int army, int n, int... due) {
        for (int what = 0; what < 3; what++) {
            c.due("plot(" + army + ", " + n + ", " + what + ")", x.plot(army, n, what), due[what]);
        }
    }

    private static void plot() {
        c.part("18 plot");
        TwoArmies x = Checks.told("hour 3");
        plotIs(x, 0, 3, 0, 1, 1);
        plotIs(x, 1, 40, 0, 1, 1);
        c.due("nothing changes", x.army(0, 0) + x.army(1, 0) + x.count(15), 0);
        // march, march | kneel 1, kneel 1 | kneel 0: by minute 5 it kneels itself, but behind 1 and 3 nobody does
        TwoArmies y = Checks.told("hour 2;kneel 1 5");
        plotIs(y, 0, 2, 0, 1, 1);
        plotIs(y, 0, 3, 1, 1, 1);
        plotIs(y, 0, 4, 2, 1, 1);
        plotIs(y, 0, 5, 0, 1, 3);
        plotIs(y, 1, 2, 0, 1, 1);
        plotIs(y, 1, 3, NONE, NONE, NONE);
        // 4 and 8 keep the ground up to minute 12, and army 1 kneels in 15 and 16; no other twos give as much
        TwoArmies z = Checks.told("hour 2;kneel 1 3");
        plotIs(z, 0, 16, 2, 4, 8);
        plotIs(z, 0, 17, 0, 8, 8);
        // turn up to 2, march up to 11 and up to 20, and army 1 kneels from 26 on
        plotIs(Checks.told("hour 5;turn 0 2;kneel 1 9"), 0, 30, 5, 9, 9);
        // what army 0 orders now comes behind its KNEEL, which it does itself
        TwoArmies own = Checks.told("hour 2;kneel 0 3;kneel 1 4");
        plotIs(own, 0, 9, NONE, NONE, NONE);
        // a KNEEL that is begun: army 1 finishes it, and army 0's turn comes behind
        own.pass(2);
        plotIs(own, 0, 1, 1, 1, 1);
        plotIs(own, 0, 2, 2, 1, 1);
        plotIs(own, 0, 3, NONE, NONE, NONE);
        plotIs(own, 1, 1, NONE, NONE, NONE);
    }

    private static void plotRefused() {
        c.part("18 plot, refused");
        TwoArmies x = Checks.told("march 0 1;march 0 1;march 0 1;march 0 1;march 0 1;march 0 1");
        c.due("6 figures", x.plot(0, 1, 0), 0);
        x.order(0, 0, 1);
        c.due("7 figures", x.plot(0, 1, 0), NOT);
        c.due("the other has none", x.plot(1, 1, 0), 0);
        x.order(0, 0, 1);
        c.due("8 figures", x.plot(0, 40, 2), NOT);
        c.due("OUTSIDE comes ahead of NOT", x.plot(0, 0, 0), OUTSIDE);
        c.due("plot(0, 41, 0)", x.plot(0, 41, 0), OUTSIDE);
        c.due("plot(0, 1, 3)", x.plot(0, 1, 3), OUTSIDE);
        c.due("plot(0, 1, -1)", x.plot(0, 1, -1), OUTSIDE);
        c.due("UNKNOWN comes ahead", x.plot(2, 0, 0), UNKNOWN);
        c.due("plot(-1, 1, 0)", x.plot(-1, 1, 0), UNKNOWN);
    }

    private static void seenAndForget() {
        c.part("19, 20 seen and forget");
        TwoArmies x = Checks.told("ground 2 3");
        c.due("forget", x.forget(), 0);
        c.due("seen(6, 1)", x.seen(6, 1), UNKNOWN);
        c.due("seen(-1, 1)", x.seen(-1, 1), UNKNOWN);
        c.due("UNKNOWN comes ahead of OUTSIDE", x.seen(6, 0), UNKNOWN);
        c.due("seen(5, 0)", x.seen(5, 0), OUTSIDE);
        c.due("seen(5, 61)", x.seen(5, 61), OUTSIDE);
        for (int i = 1; i <= 6; i++) {
            c.due("seen", x.seen(i % 2, 60), i);
        }
        c.due("seen", x.seen(0, 1), FULL);
        c.due("OUTSIDE comes ahead of FULL", x.seen(0, 0), OUTSIDE);
        c.due("UNKNOWN comes ahead of FULL", x.seen(6, 1), UNKNOWN);
        c.due("count(14)", x.count(14), 6);
        c.due("none can be undone", x.undo(), NOT);
        x.pass(9);
        c.due("count(14)", x.count(14), 6);
        c.due("forget", x.forget(), 6);
        c.due("count(14)", x.count(14), 0);
        c.due("wound by nothing seen", x.wound(), 511);
        c.due("seen", x.seen(5, 60), 1);
    }

    private static void wound() {
        c.part("21 wound");
        // hours of 4: army 0 marches east, army 1 goes back
        TwoArmies x = Checks.told("ground 6 2;hour 4;stand 1 1;march 0 1;march 0 1;march 0 1;back 1 1");
        c.due("nothing seen", x.wound(), 511);
        x.seen(4, 3);
        c.due("3 marches in 3 minutes", x.wound(), 0b000000011);
        x.forget();
        x.seen(2, 3);
        c.due("march, march, back", x.wound(), 0b000000100);
        x.forget();
        x.seen(1, 2);
        c.due("march, back", x.wound(), 0b000001000);
        x.forget();
        x.seen(0, 1);
        c.due("back: 4 and all above", x.wound(), 0b111110000);
        x.seen(1, 5);
        c.due("army 0 marches behind 4 minutes", x.wound(), 0b111110000);
        x.seen(5, 5);
        c.due("two places at once", x.wound(), 0);
        x.forget();
        x.seen(2, 1);
        x.seen(3, 2);
        c.due("two marches", x.wound(), 0b000000111);
        c.due("nothing changes", x.count(4) + x.count(15), 0);
        x.wind(1);
        c.due("from now", x.wound(), 0b000000011);
        x.seen(0, 1);
        x.forget();
        x.seen(3, 2);
        x.seen(0, 1);
        c.due("not both", x.wound(), 0);
        x.forget();
        x.seen(3, 2);
        c.due("what is forgotten counts no more", x.wound(), 0b000000011);
        for (int i = 0; i < 5; i++) {
            x.seen(2, 1);
        }
        c.due("six seen", x.wound(), 0b000000011);
    }

    private static void ordered() {
        c.part("22 ordered");
        TwoArmies x = Checks.told("ground 6 2;hour 9;stand 1 1;turn 0 2;march 0 1");
        c.due("ordered(2, 0)", x.ordered(2, 0), UNKNOWN);
        c.due("ordered(-1, 0)", x.ordered(-1, 0), UNKNOWN);
        c.due("ordered(0, 2)", x.ordered(0, 2), OUTSIDE);
        c.due("ordered(0, -1)", x.ordered(0, -1), OUTSIDE);
        c.due("UNKNOWN comes ahead of OUTSIDE", x.ordered(2, 2), UNKNOWN);
        c.due("it has none", x.ordered(1, 0), NONE);
        c.due("it has none", x.ordered(1, 1), NONE);
        c.due("OUTSIDE comes ahead of NONE", x.ordered(1, 2), OUTSIDE);
        c.due("nothing seen", x.ordered(0, 0), 45);
        c.due("the first", x.ordered(0, 1), 1);
        x.seen(3, 1);
        c.due("a double", x.ordered(0, 0), 9);
        c.due("the first", x.ordered(0, 1), 21);
        x.seen(4, 2);
        c.due("of one minute, then march", x.ordered(0, 0), 1);
        c.due("the first", x.ordered(0, 1), 21);
        x.seen(5, 2);
        c.due("two places at once", x.ordered(0, 0), 0);
        c.due("none", x.ordered(0, 1), NONE);
        x.forget();
        // turn 2 or kneel 2: then it marches, west or east
        x.seen(1, 1);
        x.seen(1, 2);
        x.seen(2, 3);
        c.due("kneel 2, then march", x.ordered(0, 0), 1);
        c.due("the first", x.ordered(0, 1), 42);
        c.due("nothing changes", x.figure(0, 0, 0), 3);
        c.due("nothing changes", x.figure(0, 0, 1), 2);
        x.forget();
        x.pass(1);
        x.seen(1, 1);
        // the turn goes on yet: then it looks west
        c.due("in place of its next one, not of the one begun", x.ordered(0, 0), 45);
        x.seen(0, 2);
        c.due("march or double", x.ordered(0, 0), 18);
        c.due("the first", x.ordered(0, 1), 1);
    }

    private static void inspected() {
        c.part("23 inspected");
        TwoArmies x = Checks.told("hour 2;turn 0 1;kneel 0 9;kneel 1 9");
        c.due("inspected(-1, 0)", x.inspected(-1, 0), OUTSIDE);
        c.due("inspected(61, 0)", x.inspected(61, 0), OUTSIDE);
        c.due("inspected(0, -1)", x.inspected(0, -1), OUTSIDE);
        c.due("inspected(0, 11)", x.inspected(0, 11), OUTSIDE);
        c.due("inspected(0, 10)", x.inspected(0, 10), 1000000000);
        c.due("inspected(1, 10)", x.inspected(1, 10), 1000000000);
        c.due("inspected(2, 10)", x.inspected(2, 10), 0);
        c.due("inspected(2, 3)", x.inspected(2, 3), 700000000);
        c.due("both armies'", x.inspected(4, 3), 343000000);
        c.due("q 0", x.inspected(60, 0), 1000000000);
        // 0.1 to the tenth times a billion is 0.1
        c.due("nine of ten, 9 minutes", x.inspected(10, 9), 1);
        c.due("nine of ten, 10 minutes", x.inspected(11, 9), 0);
        // 700000000, 490000000, .., 40353607, 28247524.9 cut, 19773266.8 cut
        c.due("not cut yet", x.inspected(10, 3), 40353607);
        c.due("cut", x.inspected(11, 3), 28247524);
        c.due("cut again", x.inspected(12, 3), 19773266);
        c.due("nothing changes", x.count(3), 0);
    }

    private static void count() {
        c.part("24 count");
        TwoArmies x = Checks.told("ground 3 5;hour 6;stand 4 3;march 0 2;kneel 0 5");
        x.pass(4);
        x.order(1, 0, 1);
        x.seen(0, 1);
        x.write('a');
        x.write('b');
        x.write('c');
        int[] due = {3, 5, 6, 0, 4, 3, 3, 4, 3, 1, 0, 0, 0, 1, 1, 2, 3};
        for (int what = 0; what < due.length; what++) {
            c.due("count(" + what + ")", x.count(what), due[what]);
        }
        c.due("count(17)", x.count(17), OUTSIDE);
        c.due("count(-1)", x.count(-1), OUTSIDE);
        c.due("count(min)", x.count(Integer.MIN_VALUE), OUTSIDE);
        c.due("count(max)", x.count(Integer.MAX_VALUE), OUTSIDE);
    }
}
