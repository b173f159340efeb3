/** Two armies at peace that share one parade ground, hour by hour; see README.md. */
public final class TwoArmies {
    public static final int NONE = -1, UNKNOWN = -2, OUTSIDE = -3, NOT = -4, FULL = -5;

    private static final int MARCH = 0, BACK = 1, DOUBLE = 2, TURN = 3, KNEEL = 4;
    private static final int KINDS = 5;
    private static final int ARMIES = 2;
    private static final int MOST_MINUTES = 9;
    private static final int MOST_FIGURES = 8;
    private static final int SIDE_AT_FIRST = 4, LEAST_SIDE = 2, MOST_SIDE = 6;
    private static final int MOST_CELLS = 36;
    private static final int HOUR_AT_FIRST = 4, SHORTEST_HOUR = 2, LONGEST_HOUR = 9;
    private static final int MOST_LETTERS = 160, MOST_CLAUSES = 14;
    private static final int MOST_UNDONE = 8, MOST_KEPT = 2, MOST_SEEN = 6;
    private static final int MOST_WOUND = 8, LAST_FULL_HOUR = 999;
    private static final int MOST_PASSED = 60, MOST_BEHIND = 99, MOST_PLOTTED = 40;
    private static final int LATEST_SEEN = 60, MOST_INSPECTED = 60;
    private static final int ODDS = 10;
    private static final long BILLION = 1000000000L;

    /** Of NORTH, EAST, SOUTH, WEST. */
    private static final int[] ROWS_ON = {-1, 0, 1, 0};
    private static final int[] COLUMNS_ON = {0, 1, 0, -1};

    /** Of a kind of figure (MARCH .. KNEEL): cells that a minute of it goes. */
    private static final int[] CELLS_A_MINUTE = {1, 1, 2, 0, 0};

    /** Of FIGURE and the kinds 1 .. 5 as they are over one another: the one above. */
    private static final int[] ABOVE = {NONE, 0, 1, 1, 0, 0};

    private final Text text = new Text();
    private final Plan told = new Plan();
    private final Reader reader = new Reader(text);
    private final Day day = new Day();
    private final Day trial = new Day();
    private final Past past = new Past();
    private final Day[] keptDays = new Day[MOST_KEPT];
    private final boolean[] isKept = new boolean[MOST_KEPT];
    private final Sightings sightings = new Sightings();

    public TwoArmies() {
        for (int k = 0; k < MOST_KEPT; k++) {
            keptDays[k] = new Day();
        }
        day.startAsTold(told);
    }

    public int write(int letter) {
        if (letter < 0 || letter > 255) {
            return OUTSIDE;
        }
        return text.append(letter) ? text.length : FULL;
    }

    public int erase() {
        int had = text.length;
        text.length = 0;
        return had;
    }

    public int fault() {
        return reader.readAll(told);
    }

    public int parade() {
        if (reader.readAll(told) != NONE) {
            return NOT;
        }
        told.copyFrom(reader.plan);
        day.startAsTold(told);
        text.length = 0;
        sightings.size = 0;
        past.size = 0;
        for (int k = 0; k < MOST_KEPT; k++) {
            isKept[k] = false;
        }
        return reader.clauses;
    }

    public int mud(int cell) {
        return day.hasCell(cell) ? day.mudOn[cell] : UNKNOWN;
    }

    public int figure(int army, int k, int what) {
        if (!isArmy(army) || k < 0 || k >= day.drills[army].size) {
            return UNKNOWN;
        }
        if (what < 0 || what > 1) {
            return OUTSIDE;
        }
        Drill drill = day.drills[army];
        return what == 0 ? drill.kinds[k] : drill.minutes[k];
    }

    public int army(int army, int what) {
        if (!isArmy(army)) {
            return UNKNOWN;
        }
        switch (what) {
            case 0:
                return day.drills[army].size;
            case 1:
                return day.knelt[army];
            case 2:
                return day.armyOfHour() == army ? 1 : 0;
            default:
                return OUTSIDE;
        }
    }

    public int as(int army, int kind) {
        if (!isArmy(army)) {
            return UNKNOWN;
        }
        if (kind < 0 || kind >= ABOVE.length) {
            return OUTSIDE;
        }
        Drill drill = day.drills[army];
        if (drill.size == 0 || !isUnder(drill.kinds[0] + 1, kind)) {
            return NOT;
        }
        return CELLS_A_MINUTE[drill.kinds[0]];
    }

    public int pass(int n) {
        if (n < 1 || n > MOST_PASSED) {
            return OUTSIDE;
        }
        if (day.hour > LAST_FULL_HOUR) {
            return FULL;
        }
        past.remember(day);
        day.goMinutes(n);
        return day.cell();
    }

    public int order(int army, int kind, int minutes) {
        if (!isArmy(army)) {
            return UNKNOWN;
        }
        if (!isFigure(kind, minutes)) {
            return OUTSIDE;
        }
        if (day.drills[army].isFull()) {
            return FULL;
        }
        past.remember(day);
        day.drills[army].append(kind, minutes);
        return day.drills[army].size;
    }

    public int wind(int k) {
        if (k < 0 || k > MOST_WOUND) {
            return OUTSIDE;
        }
        past.remember(day);
        day.windOn(k);
        return day.hour;
    }

    public int undo() {
        return past.recall(day) ? past.size : NOT;
    }

    public int keep(int k) {
        if (k < 0 || k >= MOST_KEPT) {
            return UNKNOWN;
        }
        keptDays[k].copyFrom(day);
        isKept[k] = true;
        return day.hour;
    }

    public int back(int k) {
        if (k < 0 || k >= MOST_KEPT) {
            return UNKNOWN;
        }
        if (!isKept[k]) {
            return NOT;
        }
        day.copyFrom(keptDays[k]);
        past.size = 0;
        return day.hour;
    }

    public int behind(int n, int what) {
        if (n < 0 || n > MOST_BEHIND || what < 0 || what > 4) {
            return OUTSIDE;
        }
        trial.copyFrom(day);
        trial.goMinutes(n);
        switch (what) {
            case 0:
                return trial.cell();
            case 1:
                return trial.looks;
            case 2:
                return trial.mudOn[trial.cell()];
            case 3:
                return trial.knelt[0];
            default:
                return trial.knelt[1];
        }
    }

    public int first(int army) {
        if (!isArmy(army)) {
            return UNKNOWN;
        }
        trial.copyFrom(day);
        for (int n = 1; n <= MOST_BEHIND; n++) {
            if (trial.goMinute() == army) {
                return n;
            }
        }
        return NONE;
    }

    public int plot(int army, int n, int what) {
        if (!isArmy(army)) {
            return UNKNOWN;
        }
        if (n < 1 || n > MOST_PLOTTED || what < 0 || what > 2) {
            return OUTSIDE;
        }
        if (day.drills[army].size > MOST_FIGURES - 2) {
            return NOT;
        }
        // An army that begins to kneel kneels itself, and BACK, DOUBLE, TURN take time as MARCH does:
        // the first of the best twos are always of MARCH.
        int most = NONE;
        int bestFirst = NONE;
        int bestSecond = NONE;
        for (int one = 1; one <= MOST_MINUTES; one++) {
            for (int two = 1; two <= MOST_MINUTES; two++) {
                int gain = gainOfMarches(army, n, one, two);
                if (gain > most) {
                    most = gain;
                    bestFirst = codeOf(MARCH, one);
                    bestSecond = codeOf(MARCH, two);
                }
            }
        }
        if (what == 0) {
            return most;
        }
        return what == 1 ? bestFirst : bestSecond;
    }

    public int seen(int cell, int n) {
        if (!day.hasCell(cell)) {
            return UNKNOWN;
        }
        if (n < 1 || n > LATEST_SEEN) {
            return OUTSIDE;
        }
        return sightings.append(cell, n) ? sightings.size : FULL;
    }

    public int forget() {
        int had = sightings.size;
        sightings.size = 0;
        return had;
    }

    public int wound() {
        int bits = 0;
        for (int k = 0; k <= MOST_WOUND; k++) {
            trial.copyFrom(day);
            trial.windOn(k);
            if (sightings.areSoIn(trial)) {
                bits |= 1 << k;
            }
        }
        return bits;
    }

    public int ordered(int army, int what) {
        if (!isArmy(army)) {
            return UNKNOWN;
        }
        if (what < 0 || what > 1) {
            return OUTSIDE;
        }
        if (day.drills[army].size == 0) {
            return NONE;
        }
        int fitting = 0;
        int firstFitting = NONE;
        for (int kind = 0; kind < KINDS; kind++) {
            for (int minutes = 1; minutes <= MOST_MINUTES; minutes++) {
                if (wouldExplain(army, kind, minutes)) {
                    firstFitting = fitting == 0 ? codeOf(kind, minutes) : firstFitting;
                    fitting++;
                }
            }
        }
        return what == 0 ? fitting : firstFitting;
    }

    public int inspected(int n, int q) {
        if (n < 0 || n > MOST_INSPECTED || q < 0 || q > ODDS) {
            return OUTSIDE;
        }
        trial.copyFrom(day);
        long odds = BILLION;
        for (int i = 0; i < n; i++) {
            if (trial.goMinute() != NONE) {
                odds = odds * (ODDS - q) / ODDS;
            }
        }
        return (int) odds;
    }

    public int count(int what) {
        switch (what) {
            case 0:
                return day.width;
            case 1:
                return day.height;
            case 2:
                return day.hourLength;
            case 3:
                return day.hour;
            case 4:
                return day.minute;
            case 5:
                return day.cell();
            case 6:
                return day.looks;
            case 7:
                return day.begunKind;
            case 8:
                return day.minutesLeft;
            case 9:
                return day.mudInAll();
            case 10:
            case 11:
            case 12:
            case 13:
                return day.piledUp[what - 10];
            case 14:
                return sightings.size;
            case 15:
                return past.size;
            case 16:
                return text.length;
            default:
                return OUTSIDE;
        }
    }

    private static boolean isArmy(int army) {
        return army >= 0 && army < ARMIES;
    }

    private static boolean isFigure(int kind, int minutes) {
        return kind >= 0 && kind < KINDS && minutes >= 1 && minutes <= MOST_MINUTES;
    }

    private static int codeOf(int kind, int minutes) {
        return 10 * kind + minutes;
    }

    /** Whether a kind (as they are over one another) is another one or stands under it. */
    private static boolean isUnder(int kind, int above) {
        int at = kind;
        for (int level = 0; level < ABOVE.length && at >= 0 && at < ABOVE.length; level++) {
            if (at == above) {
                return true;
            }
            at = ABOVE[at];
        }
        return false;
    }

    /** How much the other army kneels in n minutes by two marches more; NONE if the army itself does. */
    private int gainOfMarches(int army, int n, int one, int two) {
        trial.copyFrom(day);
        trial.drills[army].append(MARCH, one);
        trial.drills[army].append(MARCH, two);
        int gain = 0;
        for (int i = 0; i < n; i++) {
            int kneeler = trial.goMinute();
            if (kneeler == army) {
                return NONE;
            }
            if (kneeler != NONE) {
                gain++;
            }
        }
        return gain;
    }

    private boolean wouldExplain(int army, int kind, int minutes) {
        trial.copyFrom(day);
        trial.drills[army].replaceNext(kind, minutes);
        return sightings.areSoIn(trial);
    }

    /** The figures that an army has yet to begin, the next one first. */
    private static final class Drill {
        private final int[] kinds = new int[MOST_FIGURES];
        private final int[] minutes = new int[MOST_FIGURES];
        private int size = 0;

        boolean isFull() {
            return size >= MOST_FIGURES;
        }

        void append(int kind, int length) {
            if (isFull()) {
                return;
            }
            kinds[size] = kind;
            minutes[size] = length;
            size++;
        }

        void replaceNext(int kind, int length) {
            kinds[0] = kind;
            minutes[0] = length;
        }

        void dropNext() {
            if (size == 0) {
                return;
            }
            size--;
            System.arraycopy(kinds, 1, kinds, 0, size);
            System.arraycopy(minutes, 1, minutes, 0, size);
        }

        void copyFrom(Drill other) {
            size = other.size;
            System.arraycopy(other.kinds, 0, kinds, 0, size);
            System.arraycopy(other.minutes, 0, minutes, 0, size);
        }
    }

    /** What texts have told: how every day begins. */
    private static final class Plan {
        private int width = SIDE_AT_FIRST;
        private int height = SIDE_AT_FIRST;
        private int hourLength = HOUR_AT_FIRST;
        private int cell = 0;
        private int looks = 0;
        private final Drill[] drills = {new Drill(), new Drill()};

        void startAnew(int newWidth, int newHeight) {
            width = newWidth;
            height = newHeight;
            hourLength = HOUR_AT_FIRST;
            cell = 0;
            looks = 0;
            for (int army = 0; army < ARMIES; army++) {
                drills[army].size = 0;
            }
        }

        void copyFrom(Plan other) {
            width = other.width;
            height = other.height;
            hourLength = other.hourLength;
            cell = other.cell;
            looks = other.looks;
            for (int army = 0; army < ARMIES; army++) {
                drills[army].copyFrom(other.drills[army]);
            }
        }
    }

    /** All that minutes, orders and winding can change, at one moment. */
    private static final class Day {
        private int width;
        private int height;
        private int hourLength;
        private int hour;
        private int minute;
        private int row;
        private int column;
        private int looks;
        private int begunKind;
        private int minutesLeft;
        private final int[] mudOn = new int[MOST_CELLS];
        private final int[] piledUp = new int[ROWS_ON.length];
        private final int[] knelt = new int[ARMIES];
        private final Drill[] drills = {new Drill(), new Drill()};

        void startAsTold(Plan plan) {
            width = plan.width;
            height = plan.height;
            hourLength = plan.hourLength;
            hour = 0;
            minute = 0;
            row = width > 0 ? plan.cell / width : 0;
            column = plan.cell - row * width;
            looks = plan.looks;
            begunKind = NONE;
            minutesLeft = 0;
            clear(mudOn);
            clear(piledUp);
            clear(knelt);
            for (int army = 0; army < ARMIES; army++) {
                drills[army].copyFrom(plan.drills[army]);
            }
        }

        void copyFrom(Day other) {
            width = other.width;
            height = other.height;
            hourLength = other.hourLength;
            hour = other.hour;
            minute = other.minute;
            row = other.row;
            column = other.column;
            looks = other.looks;
            begunKind = other.begunKind;
            minutesLeft = other.minutesLeft;
            System.arraycopy(other.mudOn, 0, mudOn, 0, mudOn.length);
            System.arraycopy(other.piledUp, 0, piledUp, 0, piledUp.length);
            System.arraycopy(other.knelt, 0, knelt, 0, knelt.length);
            for (int army = 0; army < ARMIES; army++) {
                drills[army].copyFrom(other.drills[army]);
            }
        }

        boolean hasCell(int cell) {
            return cell >= 0 && cell < width * height;
        }

        int cell() {
            return row * width + column;
        }

        int armyOfHour() {
            return hour & 1;
        }

        int mudInAll() {
            int sum = 0;
            for (int cell = 0; cell < mudOn.length; cell++) {
                sum += mudOn[cell];
            }
            return sum;
        }

        void goMinutes(int n) {
            for (int i = 0; i < n; i++) {
                goMinute();
            }
        }

        /** Which army knelt in this minute; NONE. */
        int goMinute() {
            int army = armyOfHour();
            if (minutesLeft == 0) {
                beginNext(drills[army]);
            }
            int kneeler = begunKind == KNEEL ? army : NONE;
            if (minutesLeft > 0) {
                doBegun(army);
            }
            windOn(1);
            return kneeler;
        }

        /** Behind the last minute of an hour it is the next one's first, however far the clock is wound. */
        void windOn(int minutes) {
            minute += minutes;
            if (minute >= hourLength) {
                minute = 0;
                hour++;
            }
        }

        private void beginNext(Drill drill) {
            if (drill.size == 0) {
                return;
            }
            begunKind = drill.kinds[0];
            minutesLeft = drill.minutes[0];
            drill.dropNext();
        }

        private void doBegun(int army) {
            switch (begunKind) {
                case MARCH:
                    step(looks);
                    break;
                case BACK:
                    step(looks + 2);
                    break;
                case DOUBLE:
                    step(looks);
                    step(looks);
                    break;
                case TURN:
                    looks = (looks + 1) & 3;
                    break;
                default:
                    knelt[army]++;
                    break;
            }
            minutesLeft--;
            if (minutesLeft == 0) {
                begunKind = NONE;
            }
        }

        private void step(int direction) {
            int way = direction & 3;
            int toRow = row + ROWS_ON[way];
            int toColumn = column + COLUMNS_ON[way];
            if (toRow < 0 || toRow >= height || toColumn < 0 || toColumn >= width) {
                piledUp[way]++;
                return;
            }
            row = toRow;
            column = toColumn;
            mudOn[cell()]++;
        }

        private static void clear(int[] numbers) {
            for (int i = 0; i < numbers.length; i++) {
                numbers[i] = 0;
            }
        }
    }

    /** Days as they were ahead of the latest calls that can be undone, the oldest first. */
    private static final class Past {
        private final Day[] days = new Day[MOST_UNDONE];
        private int size = 0;

        Past() {
            for (int i = 0; i < MOST_UNDONE; i++) {
                days[i] = new Day();
            }
        }

        void remember(Day day) {
            if (size >= MOST_UNDONE) {
                dropOldest();
            }
            days[size].copyFrom(day);
            size++;
        }

        boolean recall(Day day) {
            if (size == 0) {
                return false;
            }
            size--;
            day.copyFrom(days[size]);
            return true;
        }

        /** The oldest one's room is used again, so that no call makes objects. */
        private void dropOldest() {
            Day oldest = days[0];
            for (int i = 1; i < MOST_UNDONE; i++) {
                days[i - 1] = days[i];
            }
            days[MOST_UNDONE - 1] = oldest;
            size = MOST_UNDONE - 1;
        }
    }

    /** Where the column was seen, behind how many minutes. */
    private static final class Sightings {
        private final int[] cells = new int[MOST_SEEN];
        private final int[] times = new int[MOST_SEEN];
        private int size = 0;

        boolean append(int cell, int time) {
            if (size >= MOST_SEEN) {
                return false;
            }
            cells[size] = cell;
            times[size] = time;
            size++;
            return true;
        }

        /** Whether all of them come true from here; the day goes on. */
        boolean areSoIn(Day day) {
            int latest = latestTime();
            for (int time = 1; time <= latest; time++) {
                day.goMinute();
                if (!agreeWith(day.cell(), time)) {
                    return false;
                }
            }
            return true;
        }

        private int latestTime() {
            int latest = 0;
            for (int i = 0; i < size; i++) {
                latest = Math.max(latest, times[i]);
            }
            return latest;
        }

        private boolean agreeWith(int cell, int time) {
            for (int i = 0; i < size; i++) {
                if (times[i] == time && cells[i] != cell) {
                    return false;
                }
            }
            return true;
        }
    }

    /** A row of letters. */
    private static final class Text {
        private static final int BLANK = 0, SMALL = 1, DIGIT = 2, OTHER = 3;

        private final int[] letters = new int[MOST_LETTERS];
        private int length = 0;

        boolean append(int letter) {
            if (length >= MOST_LETTERS) {
                return false;
            }
            letters[length] = letter;
            length++;
            return true;
        }

        boolean holds(String word, int start, int end) {
            if (start < 0 || end > length || end - start != word.length()) {
                return false;
            }
            for (int i = 0; i < word.length(); i++) {
                if (letters[start + i] != word.charAt(i)) {
                    return false;
                }
            }
            return true;
        }

        /** The number that a token is, of one or two digits; NONE. */
        int numberIn(int start, int end) {
            if (start < 0 || start >= end || end > length || end - start > 2) {
                return NONE;
            }
            int number = 0;
            for (int i = start; i < end; i++) {
                if (sortAt(i) != DIGIT) {
                    return NONE;
                }
                number = 10 * number + letters[i] - '0';
            }
            return number;
        }

        int sortAt(int place) {
            if (place < 0 || place >= length) {
                return OTHER;
            }
            int letter = letters[place];
            if (letter >= 'a' && letter <= 'z') {
                return SMALL;
            }
            if (letter >= '0' && letter <= '9') {
                return DIGIT;
            }
            return letter == ' ' ? BLANK : OTHER;
        }
    }

    /** Reads a text to its first fault, and does its clauses on a plan of its own. */
    private static final class Reader {
        private final Text text;
        private final Plan plan = new Plan();
        private int start = 0;
        private int end = 0;
        private int faultAt = NONE;
        private int clauses = 0;

        Reader(Text text) {
            this.text = text;
        }

        /** The place of the first fault; NONE: then the plan is as it is told by the text. */
        int readAll(Plan told) {
            plan.copyFrom(told);
            end = 0;
            faultAt = NONE;
            clauses = 0;
            boolean more = true;
            for (int i = 0; i < MOST_CLAUSES && more; i++) {
                readClause();
                clauses++;
                more = faultAt == NONE && readLink();
            }
            return faultAt;
        }

        /** What stands behind a clause: whether another one must follow. */
        private boolean readLink() {
            nextToken();
            if (start >= text.length) {
                return false;
            }
            if (clauses >= MOST_CLAUSES || !text.holds(";", start, end)) {
                faultAt = start;
                return false;
            }
            return true;
        }

        private void readClause() {
            nextToken();
            if (text.holds("ground", start, end)) {
                readGround();
            } else if (text.holds("stand", start, end)) {
                readStand();
            } else if (text.holds("hour", start, end)) {
                readHour();
            } else if (text.holds("rest", start, end)) {
                readRest();
            } else {
                readFigure(kindNamed());
            }
        }

        private void readGround() {
            int width = readNumber(LEAST_SIDE, MOST_SIDE);
            int height = readNumber(LEAST_SIDE, MOST_SIDE);
            if (faultAt == NONE) {
                plan.startAnew(width, height);
            }
        }

        private void readStand() {
            int cell = readNumber(0, plan.width * plan.height - 1);
            int looks = readNumber(0, 3);
            if (faultAt == NONE) {
                plan.cell = cell;
                plan.looks = looks;
            }
        }

        private void readHour() {
            int hourLength = readNumber(SHORTEST_HOUR, LONGEST_HOUR);
            if (faultAt == NONE) {
                plan.hourLength = hourLength;
            }
        }

        private void readRest() {
            int army = readNumber(0, ARMIES - 1);
            if (faultAt == NONE) {
                plan.drills[army].size = 0;
            }
        }

        private void readFigure(int kind) {
            if (kind == NONE) {
                faultAt = start;
                return;
            }
            int army = readNumber(0, ARMIES - 1);
            if (faultAt == NONE && plan.drills[army].isFull()) {
                faultAt = start;
            }
            int minutes = readNumber(1, MOST_MINUTES);
            if (faultAt == NONE) {
                plan.drills[army].append(kind, minutes);
            }
        }

        private int kindNamed() {
            if (text.holds("march", start, end)) {
                return MARCH;
            }
            if (text.holds("back", start, end)) {
                return BACK;
            }
            if (text.holds("double", start, end)) {
                return DOUBLE;
            }
            if (text.holds("turn", start, end)) {
                return TURN;
            }
            return text.holds("kneel", start, end) ? KNEEL : NONE;
        }

        /** The next token as a number in its bounds; behind a fault nothing is read any more. */
        private int readNumber(int least, int most) {
            if (faultAt != NONE) {
                return least;
            }
            nextToken();
            int number = text.numberIn(start, end);
            if (number < least || number > most) {
                faultAt = start;
                return least;
            }
            return number;
        }

        /** At the end of the text start and end are its length. */
        private void nextToken() {
            start = end;
            while (start < text.length && text.sortAt(start) == Text.BLANK) {
                start++;
            }
            end = Math.min(start + 1, text.length);
            int sort = text.sortAt(start);
            boolean isRow = sort == Text.SMALL || sort == Text.DIGIT;
            while (isRow && end < text.length && text.sortAt(end) == sort) {
                end++;
            }
        }
    }
}
