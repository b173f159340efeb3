import java.util.Random;

/** Runs of calls by chance, always the same ones, on the class and on the model: all answers agree. */
public final class ModelTest {
    private static final int RUNS = 400;
    private static final int CALLS = 512;
    private static final String[] WORDS = {
        "ground", "stand", "hour", "march", "back", "double", "turn", "kneel", "rest"};

    private final Checks checks;
    private final Random random;
    private final TwoArmies x = new TwoArmies();
    private final Model model = new Model();
    private int calls = 0;

    private ModelTest(Checks checks, int run) {
        this.checks = checks;
        this.random = new Random(run);
        checks.part("run " + run);
    }

    public static void main(String[] args) {
        Checks checks = new Checks();
        for (int run = 0; run < RUNS; run++) {
            new ModelTest(checks, run).run();
        }
        checks.finish();
    }

    private void run() {
        if (random.nextInt(8) > 0) {
            tell();
        }
        while (calls < CALLS) {
            if (random.nextInt(60) == 0) {
                tell();
            } else {
                call(random.nextInt(40));
            }
        }
    }

    private void due(String call, int got, int want) {
        calls++;
        checks.due("call " + calls + ", " + call, got, want);
    }

    private int below(int bound) {
        return random.nextInt(bound);
    }

    /** A number mostly from least to most, at times just beyond them, or far. */
    private int near(int least, int most) {
        int chance = below(40);
        if (chance == 0) {
            return least - 1;
        }
        if (chance == 1) {
            return most + 1;
        }
        if (chance == 2) {
            return random.nextInt();
        }
        return least + below(most - least + 1);
    }

    private void tell() {
        StringBuilder text = new StringBuilder();
        int clauses = below(12) == 0 ? 13 + below(4) : 1 + below(9);
        for (int i = 0; i < clauses; i++) {
            text.append(i == 0 ? "" : below(9) == 0 ? " ; " : ";");
            text.append(clause(WORDS[below(WORDS.length)]));
        }
        if (below(4) == 0 && text.length() > 0) {
            text.setCharAt(below(text.length()), " ;0123a\tA".charAt(below(9)));
        }
        for (int i = 0; i < text.length(); i++) {
            int letter = text.charAt(i);
            due("write(" + letter + ")", x.write(letter), model.write(letter));
        }
        due("fault", x.fault(), model.fault());
        due("parade", x.parade(), model.parade());
        due("count(16)", x.count(16), model.count(16));
        if (below(3) > 0) {
            due("erase", x.erase(), model.erase());
        }
    }

    private String clause(String word) {
        int slip = below(60) == 0 ? 1 : 0;
        return switch (word) {
            case "ground" -> word + " " + (2 + below(5 + slip)) + " " + (2 + below(5 + slip));
            case "stand" -> word + " " + below(8 + 8 * below(3)) + "  " + below(4 + slip);
            case "hour" -> word + " " + (2 + below(8 + slip));
            case "rest" -> below(4) > 0 ? clause("kneel") : word + below(2 + slip);
            default -> word + " " + below(2 + slip) + " " + (1 + below(9 + slip));
        };
    }

    private void call(int which) {
        switch (which) {
            case 0 -> one("mud", near(0, 35));
            case 1 -> {
                int army = near(0, 1), k = near(0, 7), what = near(0, 1);
                due("figure", x.figure(army, k, what), model.figure(army, k, what));
            }
            case 2, 3 -> two("army", near(0, 1), near(0, 2));
            case 4, 5 -> two("as", near(0, 1), near(0, 5));
            case 6, 7 -> one("pass", near(1, below(3) > 0 ? 9 : 60));
            case 8, 9, 10 -> {
                int army = near(0, 1), kind = below(2) == 0 ? 4 : near(0, 4), minutes = near(1, 9);
                due("order", x.order(army, kind, minutes), model.order(army, kind, minutes));
            }
            case 11, 12 -> one("wind", near(0, 8));
            case 13, 14 -> due("undo", x.undo(), model.undo());
            case 15 -> one("keep", near(0, 1));
            case 16 -> one("back", near(0, 1));
            case 17, 18, 19 -> two("behind", near(0, 99), near(0, 4));
            case 20, 21 -> one("first", near(0, 1));
            case 22 -> plots(near(0, 1), near(1, 40));
            case 23, 24, 25 -> sights();
            case 26 -> due("forget", x.forget(), model.forget());
            case 27, 28 -> due("wound", x.wound(), model.wound());
            case 29, 30 -> two("ordered", near(0, 1), near(0, 1));
            case 31, 32 -> two("inspected", near(0, 60), near(0, 10));
            case 33 -> all();
            case 34 -> one("write", near(0, 255));
            default -> one("count", near(0, 16));
        }
    }

    private void plots(int army, int n) {
        if (below(3) > 0) {
            return;
        }
        int what = near(0, 2);
        due("plot(" + army + ", " + n + ", " + what + ")", x.plot(army, n, what), model.plot(army, n, what));
    }

    /** Mostly what will be so, or else hardly anything would explain it. */
    private void sights() {
        if (below(3) > 0) {
            due("forget", x.forget(), model.forget());
        }
        int n = near(1, below(2) == 0 ? 12 : 60);
        int cell = below(4) > 0 && n >= 1 && n <= 60 ? model.behind(n, 0) : near(0, 35);
        two("seen", cell, n);
    }

    private void all() {
        for (int what = -1; what <= 17; what++) {
            one("count", what);
        }
        for (int cell = 0; cell <= 36; cell += 1 + below(4)) {
            one("mud", cell);
        }
    }

    private void one(String name, int a) {
        String call = name + "(" + a + ")";
        switch (name) {
            case "mud" -> due(call, x.mud(a), model.mud(a));
            case "pass" -> due(call, x.pass(a), model.pass(a));
            case "wind" -> due(call, x.wind(a), model.wind(a));
            case "keep" -> due(call, x.keep(a), model.keep(a));
            case "back" -> due(call, x.back(a), model.back(a));
            case "first" -> due(call, x.first(a), model.first(a));
            case "write" -> due(call, x.write(a), model.write(a));
            default -> due(call, x.count(a), model.count(a));
        }
    }

    private void two(String name, int a, int b) {
        String call = name + "(" + a + ", " + b + ")";
        switch (name) {
            case "army" -> due(call, x.army(a, b), model.army(a, b));
            case "as" -> due(call, x.as(a, b), model.as(a, b));
            case "behind" -> due(call, x.behind(a, b), model.behind(a, b));
            case "seen" -> due(call, x.seen(a, b), model.seen(a, b));
            case "ordered" -> due(call, x.ordered(a, b), model.ordered(a, b));
            default -> due(call, x.inspected(a, b), model.inspected(a, b));
        }
    }
}
