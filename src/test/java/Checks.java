/** What the project's tests share: it counts answers that are not the ones due. */
final class Checks {
    private int made = 0;
    private int wrong = 0;
    private String part = "";

    void part(String name) {
        part = name;
    }

    void due(String call, long got, long want) {
        made++;
        if (got != want) {
            wrong++;
            System.out.println(part + ": " + call + " answered " + got + ", due is " + want);
        }
    }

    void isTrue(String claim, boolean holds) {
        due(claim, holds ? 1 : 0, 1);
    }

    /** Ends the machine with 1 if an answer was wrong, or if nothing was asked. */
    void finish() {
        System.out.println((made - wrong) + " passed, " + wrong + " failed");
        if (wrong != 0 || made == 0) {
            System.exit(1);
        }
    }

    static void write(TwoArmies x, String text) {
        for (int i = 0; i < text.length(); i++) {
            x.write(text.charAt(i));
        }
    }

    /** A new object that has been told a text. */
    static TwoArmies told(String text) {
        TwoArmies x = new TwoArmies();
        write(x, text);
        if (x.parade() < 1) {
            throw new IllegalArgumentException("a fault in " + text);
        }
        return x;
    }

    /** Where a text on a new object has its fault. */
    static int faultOf(String text) {
        TwoArmies x = new TwoArmies();
        write(x, text);
        return x.fault();
    }
}
