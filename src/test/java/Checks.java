/** What the project's tests share: it counts answers that are not the ones due. */
final class Checks {
    private int made = 0;
    private int wrong = 0;
    private String part = "";

    void part(String name) {
        part = name;
    }

    void due(String call, long got, long want) {
        made++;
        if (got != want) {
            wrong++;
            System.out.println(part + ": " + call + " answered " + got + ", due is " + want);
        }
    }

    void isTrue(String claim, boolean holds) {
        due(claim, holds ? 1 : 0, 1);
    }

    /** Ends the machine with 1 if an answer was wrong, or if nothing was asked. */
    void finish() {
        System.out.println((made - wrong) + " passed, " + wrong + " failed");
        if (wrong != 0 || made == 0) {
            System.exit(1);
        }
    }

    /** A call, as a test hands it to a helper. */
    interface Call {
        int on(TwoArmies x);
    }

    /** All that can be asked of a day without changing it, in some 100 calls. */
    static String stateOf(TwoArmies x) {
        StringBuilder state = new StringBuilder();
        for (int what = 0; what <= 16; what++) {
            state.append(x.count(what)).append(' ');
        }
        int cells = x.count(0) * x.count(1);
        for (int cell = 0; cell < cells; cell++) {
            state.append(x.mud(cell)).append(' ');
        }
        for (int army = 0; army < 2; army++) {
            int figures = x.army(army, 0);
            state.append("| ").append(figures).append(' ').append(x.army(army, 1)).append(' ');
            for (int k = 0; k < figures; k++) {
                state.append(x.figure(army, k, 0)).append(x.figure(army, k, 1)).append(' ');
            }
        }
        return state.toString();
    }

    static void write(TwoArmies x, String text) {
        for (int i = 0; i < text.length(); i++) {
            x.write(text.charAt(i));
        }
    }

    /** A new object that has been told a text. */
    static TwoArmies told(String text) {
        TwoArmies x = new TwoArmies();
        write(x, text);
        if (x.parade() < 1) {
            throw new IllegalArgumentException("a fault in " + text);
        }
        return x;
    }

    /** Where a text on a new object has its fault. */
    static int faultOf(String text) {
        TwoArmies x = new TwoArmies();
        write(x, text);
        return x.fault();
    }
}
