import java.util.ArrayList;
import java.util.List;
import java.util.function.Function;
import java.util.function.Supplier;

/**
 * Every refusal that the document names, in several days: the answer, the first of those that fit, and that nothing
 * has changed. A day is made twice, the refused call is made in one of the two, and both are asked the same.
 */
public final class RefusalTest {
    private static final int NONE = -1, UNKNOWN = -2, OUTSIDE = -3, NOT = -4, FULL = -5;
    private static final int MIN = Integer.MIN_VALUE, MAX = Integer.MAX_VALUE;
    private static final int[] NO_ARMIES = {-1, 2, MIN, MAX};
    private static final Checks c = new Checks();

    /** A call that is refused, or one that only asks. */
    private record Refusal(String name, int due, Checks.Call call) {
    }

    private static List<Refusal> refusals = new ArrayList<>();

    public static void main(String[] args) {
        daysAreAsMeant();
        List<Refusal> always = alwaysRefused();
        List<Refusal> asked = onlyAsked();
        day("a new object", TwoArmies::new, always, refusedWhenNew(), asked);
        day("a day that goes on", RefusalTest::underWay, always, refusedUnderWay(), asked);
        day("all is full", RefusalTest::allFull, always, refusedWhenFull(), asked);
        day("hours above 999", RefusalTest::late, always, refusedWhenLate(), asked);
        day("a faulty text", RefusalTest::faulty, always, refusedByFault(), asked);
        c.finish();
    }

    private static void add(String name, int due, Checks.Call call) {
        refusals.add(new Refusal(name, due, call));
    }

    private static List<Refusal> added() {
        List<Refusal> all = refusals;
        refusals = new ArrayList<>();
        return all;
    }

    // ---- days

    private static TwoArmies underWay() {
        TwoArmies x = Checks.told("ground 5 3;hour 3;stand 7 1;march 0 4;kneel 0 3;double 1 2;kneel 1 2");
        x.pass(2);
        x.keep(1);
        x.order(1, 1, 5);
        x.pass(3);
        x.seen(9, 4);
        Checks.write(x, "hour ");
        return x;
    }

    /** Both drills, what is SEEN, kept and can be undone, and THE TEXT: 160 letters without a fault. */
    private static TwoArmies allFull() {
        TwoArmies x = Checks.told("hour 2;stand 5 1;kneel 0 5;march 1 2");
        x.keep(0);
        x.pass(3);
        x.keep(1);
        x.pass(2);
        for (int army = 0; army < 2; army++) {
            for (int i = 0; i < 8; i++) {
                x.order(army, i % 5, i + 1);
            }
        }
        for (int n = 1; n <= 6; n++) {
            x.seen(x.behind(n, 0), n);
        }
        Checks.write(x, "hour 5;turn 0 1" + " ".repeat(160 - 15 - 9) + ";back 1 7");
        return x;
    }

    private static TwoArmies late() {
        TwoArmies x = Checks.told("hour 2;march 0 9;stand 5 1");
        for (int i = 0; i < 34; i++) {
            x.pass(60);
        }
        x.order(0, 4, 3);
        x.keep(0);
        x.seen(7, 1);
        Checks.write(x, "rest");
        return x;
    }

    private static TwoArmies faulty() {
        TwoArmies x = underWay();
        x.erase();
        Checks.write(x, "ground 2 2;hour 9;rest 0;turn 1 1;stand 4 0");
        return x;
    }

    private static void daysAreAsMeant() {
        c.part("the days are as they are meant");
        TwoArmies full = allFull();
        c.due("0's figures", full.army(0, 0), 8);
        c.due("1's figures", full.army(1, 0), 8);
        c.due("seen", full.count(14), 6);
        c.due("can be undone", full.count(15), 8);
        c.due("letters", full.count(16), 160);
        c.due("no fault", full.fault(), NONE);
        c.due("kept", full.back(0), 0);
        c.due("kept", full.back(1), 1);
        c.due("the hour", late().count(3), 1020);
        c.due("begun", underWay().count(7), 2);
        c.due("the fault", faulty().fault(), 40);
    }

    // ---- what is asked of both of a day's twins, in less than 512 calls with those that make the day

    private static final List<Function<TwoArmies, String>> PROBES = List.of(
        Checks::stateOf, RefusalTest::undoAll, x -> backTo(x, 0), x -> backTo(x, 1), RefusalTest::readOn,
        RefusalTest::foretell, RefusalTest::lookBack, RefusalTest::goOn);

    private static String answers(TwoArmies x, Checks.Call... calls) {
        StringBuilder answers = new StringBuilder();
        for (Checks.Call call : calls) {
            answers.append(call.on(x)).append(' ');
        }
        return answers.toString();
    }

    private static String counts(TwoArmies x) {
        return answers(x, y -> y.count(3), y -> y.count(4), y -> y.count(5), y -> y.count(6), y -> y.count(7),
            y -> y.count(8), y -> y.count(9), y -> y.army(0, 0), y -> y.army(1, 0), y -> y.army(0, 1),
            y -> y.army(1, 1));
    }

    private static String undoAll(TwoArmies x) {
        StringBuilder answers = new StringBuilder();
        for (int i = 0; i < 9; i++) {
            answers.append(x.undo()).append(": ").append(counts(x));
        }
        return answers.toString();
    }

    private static String backTo(TwoArmies x, int k) {
        return x.back(k) + ": " + Checks.stateOf(x);
    }

    private static String readOn(TwoArmies x) {
        String read = answers(x, y -> y.fault(), y -> y.write('7'), y -> y.fault(), y -> y.parade());
        return read + Checks.stateOf(x);
    }

    private static String foretell(TwoArmies x) {
        StringBuilder answers = new StringBuilder();
        for (int n = 0; n <= 99; n += 11) {
            for (int what = 0; what <= 4; what++) {
                answers.append(x.behind(n, what)).append(' ');
            }
        }
        for (int army = 0; army < 2; army++) {
            answers.append(x.first(army)).append(' ').append(x.plot(army, 40, 0)).append(' ');
            answers.append(x.plot(army, 9, 1)).append(' ').append(x.plot(army, 17, 2)).append(' ');
        }
        return answers.append(x.inspected(60, 1)).toString();
    }

    private static String lookBack(TwoArmies x) {
        return answers(x, y -> y.wound(), y -> y.ordered(0, 0), y -> y.ordered(0, 1), y -> y.ordered(1, 0),
            y -> y.ordered(1, 1), y -> y.forget(), y -> y.wound());
    }

    private static String goOn(TwoArmies x) {
        StringBuilder answers = new StringBuilder();
        for (int i = 0; i < 10; i++) {
            answers.append(i % 4 == 3 ? x.wind(1) : x.pass(1 + i % 3)).append(": ").append(counts(x));
        }
        return answers.toString();
    }

    // ---- a day

    @SafeVarargs
    private static void day(String name, Supplier<TwoArmies> made, List<Refusal>... calls) {
        c.part(name);
        List<String> due = new ArrayList<>();
        for (Function<TwoArmies, String> probe : PROBES) {
            due.add(probe.apply(made.get()));
        }
        for (List<Refusal> some : calls) {
            for (Refusal refusal : some) {
                changesNothing(made, refusal, due);
            }
        }
    }

    private static void changesNothing(Supplier<TwoArmies> made, Refusal refusal, List<String> due) {
        for (int i = 0; i < PROBES.size(); i++) {
            TwoArmies x = made.get();
            int answer = refusal.call().on(x);
            if (refusal.due() != 0) {
                c.due(refusal.name(), answer, refusal.due());
            }
            String got = PROBES.get(i).apply(x);
            c.isTrue(refusal.name() + " changes nothing: " + got + " is " + due.get(i), got.equals(due.get(i)));
        }
    }

    // ---- calls

    private static List<Refusal> alwaysRefused() {
        for (int letter : new int[] {-1, 256, MIN, MAX}) {
            add("write(" + letter + ")", OUTSIDE, x -> x.write(letter));
        }
        for (int cell : new int[] {-1, 36, MIN, MAX}) {
            add("mud(" + cell + ")", UNKNOWN, x -> x.mud(cell));
            add("seen(" + cell + ", 1)", UNKNOWN, x -> x.seen(cell, 1));
            add("seen(" + cell + ", 0)", UNKNOWN, x -> x.seen(cell, 0));
            add("seen(" + cell + ", 61)", UNKNOWN, x -> x.seen(cell, 61));
        }
        for (int n : new int[] {0, 61, MIN, MAX}) {
            add("seen(0, " + n + ")", OUTSIDE, x -> x.seen(0, n));
            add("pass(" + n + ")", OUTSIDE, x -> x.pass(n));
        }
        for (int k : new int[] {-1, 9, MIN, MAX}) {
            add("wind(" + k + ")", OUTSIDE, x -> x.wind(k));
        }
        for (int k : new int[] {-1, 2, MIN, MAX}) {
            add("keep(" + k + ")", UNKNOWN, x -> x.keep(k));
            add("back(" + k + ")", UNKNOWN, x -> x.back(k));
        }
        for (int what : new int[] {-1, 17, MIN, MAX}) {
            add("count(" + what + ")", OUTSIDE, x -> x.count(what));
        }
        for (int army : NO_ARMIES) {
            addForNoArmy(army);
        }
        for (int army = 0; army < 2; army++) {
            addForArmy(army);
        }
        addForetold();
        return added();
    }

    /** Other numbers are good, or not as told, or what NOT and FULL are for: UNKNOWN is ahead of all. */
    private static void addForNoArmy(int army) {
        for (int other : new int[] {-1, 0, 1, 99, MIN, MAX}) {
            String with = "(" + army + ", .. " + other + ")";
            add("figure" + with, UNKNOWN, x -> x.figure(army, 0, other));
            add("figure" + with + " by k", UNKNOWN, x -> x.figure(army, other, 0));
            add("army" + with, UNKNOWN, x -> x.army(army, other));
            add("as" + with, UNKNOWN, x -> x.as(army, other));
            add("order" + with, UNKNOWN, x -> x.order(army, 0, other));
            add("order" + with + " by kind", UNKNOWN, x -> x.order(army, other, 1));
            add("plot" + with, UNKNOWN, x -> x.plot(army, 1, other));
            add("plot" + with + " by n", UNKNOWN, x -> x.plot(army, other, 0));
            add("ordered" + with, UNKNOWN, x -> x.ordered(army, other));
        }
        add("first(" + army + ")", UNKNOWN, x -> x.first(army));
    }

    private static void addForArmy(int army) {
        for (int k : new int[] {-1, 8, MIN, MAX}) {
            for (int what : new int[] {0, 1, 2, -1, MAX}) {
                add("figure(" + army + ", " + k + ", " + what + ")", UNKNOWN, x -> x.figure(army, k, what));
            }
        }
        for (int what : new int[] {-1, 3, MIN, MAX}) {
            add("army(" + army + ", " + what + ")", OUTSIDE, x -> x.army(army, what));
            add("plot(" + army + ", 1, " + what + ")", OUTSIDE, x -> x.plot(army, 1, what));
            add("plot(" + army + ", 41, " + what + ")", OUTSIDE, x -> x.plot(army, 41, what));
        }
        for (int n : new int[] {0, 41, MIN, MAX}) {
            add("plot(" + army + ", " + n + ", 0)", OUTSIDE, x -> x.plot(army, n, 0));
        }
        for (int what : new int[] {-1, 2, MIN, MAX}) {
            add("ordered(" + army + ", " + what + ")", OUTSIDE, x -> x.ordered(army, what));
        }
        for (int kind : new int[] {-1, 6, MIN, MAX}) {
            add("as(" + army + ", " + kind + ")", OUTSIDE, x -> x.as(army, kind));
        }
        for (int kind : new int[] {-1, 5, MIN, MAX}) {
            add("order(" + army + ", " + kind + ", 1)", OUTSIDE, x -> x.order(army, kind, 1));
            add("order(" + army + ", " + kind + ", 0)", OUTSIDE, x -> x.order(army, kind, 0));
        }
        for (int minutes : new int[] {0, 10, MIN, MAX}) {
            add("order(" + army + ", 0, " + minutes + ")", OUTSIDE, x -> x.order(army, 0, minutes));
        }
    }

    private static void addForetold() {
        for (int n : new int[] {-1, 100, MIN, MAX}) {
            add("behind(" + n + ", 0)", OUTSIDE, x -> x.behind(n, 0));
        }
        for (int what : new int[] {-1, 5, MIN, MAX}) {
            add("behind(0, " + what + ")", OUTSIDE, x -> x.behind(0, what));
        }
        for (int n : new int[] {-1, 61, MIN, MAX}) {
            add("inspected(" + n + ", 0)", OUTSIDE, x -> x.inspected(n, 0));
        }
        for (int q : new int[] {-1, 11, MIN, MAX}) {
            add("inspected(0, " + q + ")", OUTSIDE, x -> x.inspected(0, q));
        }
    }

    /** None of these changes a thing; what they answer is told by other tests. */
    private static List<Refusal> onlyAsked() {
        add("fault()", 0, x -> x.fault());
        add("count", 0, x -> x.count(9));
        add("mud(0)", 0, x -> x.mud(0));
        add("wound()", 0, x -> x.wound());
        add("behind(99, 2)", 0, x -> x.behind(99, 2));
        add("inspected(60, 10)", 0, x -> x.inspected(60, 10));
        for (int army = 0; army < 2; army++) {
            int of = army;
            add("figure(" + of + ", 0, 0)", 0, x -> x.figure(of, 0, 0));
            add("army(" + of + ", 2)", 0, x -> x.army(of, 2));
            add("as(" + of + ", 0)", 0, x -> x.as(of, 0));
            add("first(" + of + ")", 0, x -> x.first(of));
            add("plot(" + of + ", 40, 0)", 0, x -> x.plot(of, 40, 0));
            add("ordered(" + of + ", 0)", 0, x -> x.ordered(of, 0));
        }
        return added();
    }

    private static List<Refusal> refusedWhenNew() {
        add("parade of an empty text", NOT, x -> x.parade());
        add("fault of an empty text", 0, x -> x.fault());
        add("undo", NOT, x -> x.undo());
        add("back(0)", NOT, x -> x.back(0));
        add("back(1)", NOT, x -> x.back(1));
        add("mud(16)", UNKNOWN, x -> x.mud(16));
        add("seen(16, 1)", UNKNOWN, x -> x.seen(16, 1));
        add("erase of nothing", 0, x -> x.erase());
        add("forget nothing", 0, x -> x.forget());
        for (int army = 0; army < 2; army++) {
            int of = army;
            add("figure(" + of + ", 0, 0)", UNKNOWN, x -> x.figure(of, 0, 0));
            add("figure(" + of + ", 0, 2)", UNKNOWN, x -> x.figure(of, 0, 2));
            for (int kind = 0; kind <= 5; kind++) {
                int as = kind;
                add("as(" + of + ", " + as + ")", NOT, x -> x.as(of, as));
            }
            add("first(" + of + ")", NONE, x -> x.first(of));
            add("ordered(" + of + ", 0)", NONE, x -> x.ordered(of, 0));
            add("ordered(" + of + ", 1)", NONE, x -> x.ordered(of, 1));
        }
        return added();
    }

    private static List<Refusal> refusedUnderWay() {
        add("parade, its end too soon", NOT, x -> x.parade());
        add("back(0)", NOT, x -> x.back(0));
        add("mud(15)", UNKNOWN, x -> x.mud(15));
        add("seen(15, 1)", UNKNOWN, x -> x.seen(15, 1));
        add("seen(15, 61)", UNKNOWN, x -> x.seen(15, 61));
        add("figure(0, 1, 0)", UNKNOWN, x -> x.figure(0, 1, 0));
        add("figure(0, 1, 2)", UNKNOWN, x -> x.figure(0, 1, 2));
        add("figure(0, 0, 2)", OUTSIDE, x -> x.figure(0, 0, 2));
        add("figure(0, 0, -1)", OUTSIDE, x -> x.figure(0, 0, -1));
        add("figure(0, 0, min)", OUTSIDE, x -> x.figure(0, 0, MIN));
        add("figure(0, 0, max)", OUTSIDE, x -> x.figure(0, 0, MAX));
        add("a kneel as a march", NOT, x -> x.as(0, 1));
        add("a kneel as a turn", NOT, x -> x.as(0, 4));
        return added();
    }

    private static List<Refusal> refusedWhenFull() {
        for (int letter : new int[] {0, ' ', ';', '7', 255}) {
            add("write(" + letter + ")", FULL, x -> x.write(letter));
        }
        for (int army = 0; army < 2; army++) {
            int of = army;
            add("order(" + of + ", 0, 1)", FULL, x -> x.order(of, 0, 1));
            add("order(" + of + ", 4, 9)", FULL, x -> x.order(of, 4, 9));
            add("plot(" + of + ", 1, 0)", NOT, x -> x.plot(of, 1, 0));
            add("plot(" + of + ", 40, 2)", NOT, x -> x.plot(of, 40, 2));
            add("figure(" + of + ", 7, 2)", OUTSIDE, x -> x.figure(of, 7, 2));
        }
        add("seen(0, 1)", FULL, x -> x.seen(0, 1));
        add("seen(15, 60)", FULL, x -> x.seen(15, 60));
        add("seen(16, 60)", UNKNOWN, x -> x.seen(16, 60));
        return added();
    }

    private static List<Refusal> refusedWhenLate() {
        add("pass(1)", FULL, x -> x.pass(1));
        add("pass(60)", FULL, x -> x.pass(60));
        add("back(1)", NOT, x -> x.back(1));
        add("parade", NOT, x -> x.parade());
        return added();
    }

    private static List<Refusal> refusedByFault() {
        add("parade", NOT, x -> x.parade());
        add("fault", 0, x -> x.fault());
        return added();
    }
}
