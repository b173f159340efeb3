/** THE TEXT at its bounds: its length, its clauses, every number's first and last, words, the end, a ninth figure. */
public final class TextBoundsTest {
    private static final int NONE = -1, OUTSIDE = -3, NOT = -4, FULL = -5;
    private static final String[] FIGURES = {"march", "back", "double", "turn", "kneel"};
    private static final String[] WORDS = {
        "ground", "stand", "hour", "rest", "march", "back", "double", "turn", "kneel"};
    private static final Checks c = new Checks();

    public static void main(String[] args) {
        letters();
        lastLetter();
        emptyTexts();
        numbersOfEveryClause();
        cellsOfEveryGround();
        groundIsAsAtFirst();
        hoursAndFiguresAreTold();
        digits();
        comesTooSoon();
        tooMuch();
        words();
        everyLetter();
        clausesAtMost();
        clausesInTheirOrder();
        ninthOfOneText();
        ninthOfSeveralTexts();
        firstOfTwoFaults();
        refusedParade();
        c.finish();
    }

    private static void fault(String text, int due) {
        c.due("fault of '" + text + "'", Checks.faultOf(text), due);
    }

    /** A clause's numbers at their least, so that one of them can be changed alone. */
    private static String clause(String word, int... numbers) {
        StringBuilder text = new StringBuilder(word);
        for (int number : numbers) {
            text.append(' ').append(number);
        }
        return text.toString();
    }

    private static int[][] boundsOf(String word) {
        return switch (word) {
            case "ground" -> new int[][] {{2, 6}, {2, 6}};
            case "stand" -> new int[][] {{0, 15}, {0, 3}};
            case "hour" -> new int[][] {{2, 9}};
            case "rest" -> new int[][] {{0, 1}};
            default -> new int[][] {{0, 1}, {1, 9}};
        };
    }

    private static String atLeast(String word) {
        int[][] bounds = boundsOf(word);
        return bounds.length == 1 ? clause(word, bounds[0][0]) : clause(word, bounds[0][0], bounds[1][0]);
    }

    private static void letters() {
        c.part("letters 0 .. 255, 160 of them");
        for (int letter = 0; letter <= 255; letter++) {
            TwoArmies x = new TwoArmies();
            c.due("write(" + letter + ")", x.write(letter), 1);
        }
        for (int letter : new int[] {-1, 256, -255, -256, 288, Integer.MIN_VALUE, Integer.MAX_VALUE}) {
            TwoArmies x = new TwoArmies();
            c.due("write(" + letter + ")", x.write(letter), OUTSIDE);
            c.due("no letter more", x.count(16), 0);
            c.due("none to erase", x.erase(), 0);
        }
        TwoArmies x = new TwoArmies();
        for (int i = 1; i <= 160; i++) {
            c.due("letter " + i, x.write(' '), i);
        }
        c.due("letter 161", x.write(' '), FULL);
        c.due("letter 161, again", x.write('a'), FULL);
        c.due("OUTSIDE ahead of FULL", x.write(-1), OUTSIDE);
        c.due("OUTSIDE ahead of FULL", x.write(256), OUTSIDE);
        c.due("OUTSIDE ahead of FULL", x.write(Integer.MAX_VALUE), OUTSIDE);
        c.due("160 letters", x.count(16), 160);
        c.due("erase a full text", x.erase(), 160);
        c.due("erase an empty one", x.erase(), 0);
        c.due("the first letter again", x.write('r'), 1);
    }

    private static void lastLetter() {
        c.part("the 160th letter");
        TwoArmies x = new TwoArmies();
        Checks.write(x, " ".repeat(154) + "hour 7");
        c.due("refused", x.write('9'), FULL);
        c.due("refused", x.write('0'), FULL);
        c.due("fault", x.fault(), NONE);
        c.due("parade", x.parade(), 1);
        c.due("the hour of the last letter", x.count(2), 7);
        c.due("the text is empty", x.count(16), 0);
        c.due("a letter of the next text", x.write('h'), 1);
        fault(" ".repeat(153) + "hour 7 ", NONE);
        fault(" ".repeat(155) + "hour 7", 160);
        fault(" ".repeat(154) + "hour 1", 159);
        fault("hour 7" + " ".repeat(154), NONE);
        fault("hour 7" + " ".repeat(153) + ";", 160);
        fault("hour 7" + " ".repeat(153) + "7", 159);
        fault("hour" + " ".repeat(155) + "7", NONE);
        fault("hour " + "7".repeat(155), 5);
        fault("h".repeat(160), 0);
    }

    private static void emptyTexts() {
        c.part("an empty text");
        for (int blanks : new int[] {0, 1, 2, 159, 160}) {
            TwoArmies x = new TwoArmies();
            Checks.write(x, " ".repeat(blanks));
            c.due("fault of " + blanks + " blanks", x.fault(), blanks);
            c.due("parade of " + blanks + " blanks", x.parade(), NOT);
            c.due("they stay", x.erase(), blanks);
            c.due("nothing behind them", x.fault(), 0);
        }
        TwoArmies x = new TwoArmies();
        Checks.write(x, "hour 3");
        x.erase();
        Checks.write(x, "hour");
        c.due("what was erased is not read", x.fault(), 4);
    }

    private static void numbersOfEveryClause() {
        for (String word : WORDS) {
            int[][] bounds = boundsOf(word);
            for (int slot = 0; slot < bounds.length; slot++) {
                c.part("number " + slot + " of " + word);
                for (int number = 0; number <= 99; number++) {
                    numberOf(word, slot, number, number >= bounds[slot][0] && number <= bounds[slot][1]);
                }
            }
        }
    }

    private static void numberOf(String word, int slot, int number, boolean good) {
        int[][] bounds = boundsOf(word);
        String head = slot == 0 ? word + " " : clause(word, bounds[0][0]) + " ";
        String tail = slot == 0 && bounds.length == 2 ? " " + bounds[1][0] : "";
        int due = good ? NONE : head.length();
        fault(head + number + tail, due);
        fault(head + number + tail + ";rest 0", due);
        fault(head + (number < 10 ? "0" : "") + number + tail, due);
        fault(head + "0" + (number < 10 ? "0" : "") + number + tail, head.length());
        fault(head + number + "00" + tail, head.length());
    }

    private static void cellsOfEveryGround() {
        c.part("cells of every ground");
        for (int w = 2; w <= 6; w++) {
            for (int h = 2; h <= 6; h++) {
                String ground = clause("ground", w, h);
                String head = ground + ";stand ";
                fault(head + (w * h - 1) + " 3", NONE);
                fault(head + (w * h) + " 3", head.length());
                fault(head + "0 0;ground 2 2;stand 3 0", NONE);
                fault(head + "0 0;ground 2 2;stand 4 0", head.length() + "0 0;ground 2 2;stand ".length());
                TwoArmies x = Checks.told(head + (w * h - 1) + " 3");
                c.due("w", x.count(0), w);
                c.due("h", x.count(1), h);
                c.due("the last cell", x.count(5), w * h - 1);
                c.due("west", x.count(6), 3);
                Checks.write(x, "stand " + (w * h) + " 0");
                c.due("the earlier text's ground", x.fault(), 6);
                x.erase();
                Checks.write(x, "stand " + (w * h - 1) + " 0");
                c.due("the earlier text's ground", x.fault(), NONE);
            }
        }
    }

    private static void groundIsAsAtFirst() {
        c.part("ground: all as at first, but W, H");
        TwoArmies x = Checks.told("hour 9;stand 15 3;march 0 1;kneel 1 2;ground 2 3;turn 1 8");
        int[] due = {2, 3, 4, 0, 0, 0, 0};
        for (int what = 0; what < due.length; what++) {
            c.due("count(" + what + ")", x.count(what), due[what]);
        }
        c.due("no figures of 0", x.army(0, 0), 0);
        c.due("those behind it", x.army(1, 0), 1);
        c.due("turn", x.figure(1, 0, 0), 3);
        Checks.write(x, "ground 2 3");
        c.due("parade", x.parade(), 1);
        c.due("the same ground: no figures either", x.army(1, 0), 0);
    }

    private static void hoursAndFiguresAreTold() {
        c.part("what is told stands");
        for (int m = 2; m <= 9; m++) {
            c.due("hour " + m, Checks.told(clause("hour", m)).count(2), m);
        }
        for (int kind = 0; kind < 5; kind++) {
            for (int army = 0; army < 2; army++) {
                for (int minutes = 1; minutes <= 9; minutes++) {
                    TwoArmies x = Checks.told(clause(FIGURES[kind], army, minutes));
                    c.due("kind", x.figure(army, 0, 0), kind);
                    c.due("minutes", x.figure(army, 0, 1), minutes);
                    c.due("one", x.army(army, 0), 1);
                    c.due("none of the other", x.army(1 - army, 0), 0);
                }
            }
        }
        for (int cell = 0; cell < 16; cell++) {
            for (int look = 0; look < 4; look++) {
                TwoArmies x = Checks.told(clause("stand", cell, look));
                c.due("cell", x.count(5), cell);
                c.due("look", x.count(6), look);
            }
        }
        for (int army = 0; army < 2; army++) {
            TwoArmies x = Checks.told("march 0 1;march 1 1;" + clause("rest", army));
            c.due("it rests", x.army(army, 0), 0);
            c.due("the other does not", x.army(1 - army, 0), 1);
        }
    }

    private static void digits() {
        c.part("numbers of 1 or 2 digits");
        c.due("03 is 3", Checks.told("hour 03").count(2), 3);
        c.due("09 is 9", Checks.told("kneel 01 09").figure(1, 0, 1), 9);
        fault("hour 3 3", 7);
        fault("stand 1 5 1", 8);
        fault("stand 15 1", NONE);
        fault("stand 015 1", 6);
        fault("stand 0 00", NONE);
        fault("stand 00 000", 9);
        fault("march 01", 8);
        fault("march 011", 6);
        fault("hour 2147483647", 5);
        fault("hour 4294967300", 5);
        fault("hour 00000000000000000004", 5);
    }

    private static void comesTooSoon() {
        for (String word : WORDS) {
            c.part("the end of " + word + " comes too soon");
            String whole = atLeast(word);
            int[][] bounds = boundsOf(word);
            String[] heads = bounds.length == 1
                ? new String[] {word} : new String[] {word, clause(word, bounds[0][0])};
            for (String head : heads) {
                fault(head, head.length());
                fault(head + "   ", head.length() + 3);
                fault(head + ";", head.length());
                fault(head + "  ;rest 0", head.length() + 2);
                fault(head + " rest 0", head.length() + 1);
                fault("rest 0;" + head, head.length() + 7);
            }
            fault(whole, NONE);
            fault(whole + "  ", NONE);
            fault(whole + ";", whole.length() + 1);
            fault(whole + " ; ", whole.length() + 3);
        }
    }

    private static void tooMuch() {
        for (String word : WORDS) {
            c.part("more than " + word + " has");
            String whole = atLeast(word);
            fault(whole + " 1", whole.length() + 1);
            fault(whole + " rest 0", whole.length() + 1);
            fault(whole + ";;rest 0", whole.length() + 1);
            fault(whole + ";;", whole.length() + 1);
            fault(";" + whole, 0);
            fault(" ;" + whole, 1);
            fault(whole + ";7", whole.length() + 1);
        }
    }

    private static void words() {
        for (String word : WORDS) {
            c.part("the word " + word);
            String rest = atLeast(word).substring(word.length());
            fault(word.substring(1) + rest, 0);
            fault(word.substring(0, word.length() - 1) + rest, 0);
            fault(word + "s" + rest, 0);
            fault("a" + word + rest, 0);
            fault(word + word + rest, 0);
            fault(word.toUpperCase() + rest, 0);
            fault(word.substring(0, 1).toUpperCase() + word.substring(1) + rest, 0);
            fault(word.substring(0, 2) + " " + word.substring(2) + rest, 0);
            fault("rest 0;" + word + "s" + rest, 7);
            fault("rest 0; " + word + "s" + rest, 8);
            fault("   " + word + rest.replace(" ", "   ") + "   ", NONE);
        }
        fault("stands 0 0", 0);
        fault("", 0);
        fault("as 0 0", 0);
        fault("figure 0 1", 0);
    }

    private static void everyLetter() {
        c.part("every letter");
        for (int letter = 0; letter <= 255; letter++) {
            char sign = (char) letter;
            boolean small = sign >= 'a' && sign <= 'z';
            boolean digit = sign >= '0' && sign <= '9';
            fault(sign + "rest 1", sign == ' ' ? NONE : 0);
            fault("rest" + sign + "1", sign == ' ' || sign == '0' ? NONE : small ? 0 : 4);
            fault("rest 1" + sign, sign == ' ' ? NONE : sign == ';' ? 7 : digit ? 5 : 6);
            fault("rest 1" + sign + "rest 0", sign == ';' ? NONE : digit ? 5 : sign == ' ' ? 7 : 6);
            fault("rest 1 " + sign + " rest 0", sign == ';' ? NONE : sign == ' ' ? 9 : 7);
        }
    }

    private static String clauses(int number) {
        return "turn 0 1" + ";rest 0".repeat(number - 1);
    }

    private static void clausesAtMost() {
        c.part("14 clauses at most");
        for (int number = 1; number <= 14; number++) {
            TwoArmies x = new TwoArmies();
            Checks.write(x, clauses(number));
            c.due("fault of " + number, x.fault(), NONE);
            c.due("parade of " + number, x.parade(), number);
        }
        int end = clauses(14).length();
        fault(clauses(13) + ";", clauses(13).length() + 1);
        fault(clauses(14) + ";", end);
        fault(clauses(14) + "  ;", end + 2);
        fault(clauses(14) + " ", NONE);
        fault(clauses(15), end);
        fault(clauses(14) + " 7", end + 1);
        TwoArmies x = new TwoArmies();
        Checks.write(x, clauses(15));
        c.due("parade of 15", x.parade(), NOT);
        c.due("the text stays", x.count(16), clauses(15).length());
        TwoArmies y = Checks.told(clauses(14));
        Checks.write(y, clauses(14));
        c.due("14 of another text", y.parade(), 14);
    }

    private static void clausesInTheirOrder() {
        c.part("clauses in their order");
        TwoArmies x = Checks.told("turn 0 1;turn 0 2;turn 0 3;turn 0 4;turn 0 5;turn 0 6;turn 0 7;turn 0 8"
            + ";back 1 6;back 1 5;back 1 4;back 1 3;back 1 2;back 1 1");
        c.due("8 of army 0", x.army(0, 0), 8);
        c.due("6 of army 1", x.army(1, 0), 6);
        for (int k = 0; k < 8; k++) {
            c.due("the " + k + "-th of 0", x.figure(0, k, 1), k + 1);
        }
        for (int k = 0; k < 6; k++) {
            c.due("the " + k + "-th of 1", x.figure(1, k, 1), 6 - k);
        }
        c.due("the last hour", Checks.told("hour 9;hour 2;hour 5").count(2), 5);
        c.due("the last stand", Checks.told("stand 9 1;stand 3 2").count(5), 3);
    }

    private static String eightOf(int army) {
        StringBuilder text = new StringBuilder();
        for (int i = 0; i < 8; i++) {
            text.append(i == 0 ? "" : ";").append(clause(FIGURES[i % 5], army, 1));
        }
        return text.toString();
    }

    private static void ninthOfOneText() {
        c.part("a ninth figure");
        for (int army = 0; army < 2; army++) {
            String eight = eightOf(army);
            fault(eight, NONE);
            for (String word : FIGURES) {
                String head = eight + ";" + word + " ";
                fault(head + army + " 1", head.length());
                fault(head + army + " 0", head.length());
                fault(head + army, head.length());
                fault(head + army + ";", head.length());
                fault(head + "2 1", head.length());
                fault(head + (1 - army) + " 1", NONE);
                fault(head + (1 - army) + " 0", head.length() + 2);
            }
            fault(eight + ";rest " + army + ";turn " + army + " 1", NONE);
            fault(eight + ";ground 4 4;turn " + army + " 1", NONE);
            String other = eight + ";rest " + (1 - army) + ";turn ";
            fault(other + army + " 1", other.length());
        }
    }

    private static void ninthOfSeveralTexts() {
        c.part("a ninth figure of several texts");
        for (int army = 0; army < 2; army++) {
            for (int earlier = 1; earlier <= 8; earlier++) {
                String one = clause("turn", army, 1);
                TwoArmies x = Checks.told(one + (";" + one).repeat(earlier - 1));
                Checks.write(x, one + (";" + one).repeat(8 - earlier));
                c.due("the ninth behind " + earlier, x.fault(), 9 * (8 - earlier) + 5);
                c.due("parade", x.parade(), NOT);
                c.due("as many as before", x.army(army, 0), earlier);
            }
            TwoArmies done = Checks.told(eightOf(army));
            done.pass(60);
            c.due("all are done", done.army(army, 0), 0);
            Checks.write(done, clause("turn", army, 1));
            c.due("those that are told count", done.fault(), 5);
            TwoArmies ordered = new TwoArmies();
            for (int i = 0; i < 8; i++) {
                ordered.order(army, 0, 1);
            }
            Checks.write(ordered, clause("turn", army, 1));
            c.due("those that are ordered do not", ordered.fault(), NONE);
            c.due("parade", ordered.parade(), 1);
            c.due("the drill is as told", ordered.army(army, 0), 1);
        }
    }

    private static void firstOfTwoFaults() {
        c.part("the first of two faults");
        fault("ground 7 7", 7);
        fault("ground 1 1;rest 2", 7);
        fault("stand 16 4", 6);
        fault("march 2 0", 6);
        fault("march 0 0;x", 8);
        fault("x;march 0 0", 0);
        fault("rest 2;x", 5);
        fault("? !", 0);
        fault("rest ? !", 5);
    }

    private static void refusedParade() {
        c.part("a text with a fault does nothing");
        TwoArmies x = Checks.told("hour 3;stand 5 1;march 0 5;kneel 1 2");
        x.pass(2);
        x.keep(1);
        x.seen(3, 3);
        x.order(1, 2, 3);
        String before = Checks.stateOf(x);
        Checks.write(x, "ground 6 6;hour 9;rest 0;stand 35 1;turn 1 1;rest 2");
        c.due("fault", x.fault(), 50);
        c.due("parade", x.parade(), NOT);
        c.due("parade again", x.parade(), NOT);
        c.due("the text stays", x.erase(), 51);
        c.isTrue("all is as before", before.equals(Checks.stateOf(x)));
        c.due("what is kept", x.back(1), 0);
        c.due("it is as it was kept", x.army(1, 0), 1);
        Checks.write(x, "stand 15 0");
        c.due("nothing of the ground was told", x.parade(), 1);
        c.due("w", x.count(0), 4);
        c.due("hour", x.count(2), 3);
        c.due("army 0 rests not", x.army(0, 0), 1);
        c.due("army 1 has what was told", x.army(1, 0), 1);
    }
}
