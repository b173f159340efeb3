import java.util.ArrayDeque;
import java.util.ArrayList;
import java.util.Deque;
import java.util.HashMap;
import java.util.List;
import java.util.Map;
import java.util.regex.Matcher;
import java.util.regex.Pattern;

/** The document once more, told in another way, and slowly: what ModelTest holds the class against. */
final class Model {
    private static final int NONE = -1, UNKNOWN = -2, OUTSIDE = -3, NOT = -4, FULL = -5;
    private static final Pattern TOKEN = Pattern.compile("[a-z]+|[0-9]+|[^ a-z0-9]", Pattern.DOTALL);
    private static final List<String> KINDS = List.of("march", "back", "double", "turn", "kneel");

    /** A figure of a kind. */
    record Figure(int kind, int minutes) {
    }

    /** How a day is at a moment; a figure that is begun has the minutes that are left. */
    static final class World {
        int w = 4, h = 4, m = 4, hour = 0, minute = 0, x = 0, y = 0, look = 0;
        Figure begun = null;
        Map<Integer, Integer> mud = new HashMap<>();
        int[] piles = new int[4];
        int[] knelt = new int[2];
        List<Deque<Figure>> drills = List.of(new ArrayDeque<>(), new ArrayDeque<>());

        World copy() {
            World other = new World();
            other.w = w;
            other.h = h;
            other.m = m;
            other.hour = hour;
            other.minute = minute;
            other.x = x;
            other.y = y;
            other.look = look;
            other.begun = begun;
            other.mud.putAll(mud);
            other.piles = piles.clone();
            other.knelt = knelt.clone();
            other.drills = List.of(new ArrayDeque<>(drills.get(0)), new ArrayDeque<>(drills.get(1)));
            return other;
        }

        int cell() {
            return y * w + x;
        }

        World after(int n) {
            World world = copy();
            for (int i = 0; i < n; i++) {
                world.go();
            }
            return world;
        }

        World woundBy(int k) {
            World world = copy();
            for (int i = 0; i < k && world.hour == hour; i++) {
                world.tick();
            }
            return world;
        }

        void go() {
            int army = hour % 2;
            if (begun == null) {
                begun = drills.get(army).poll();
            }
            if (begun != null) {
                switch (begun.kind()) {
                    case 0 -> step(look);
                    case 1 -> step((look + 2) % 4);
                    case 2 -> {
                        step(look);
                        step(look);
                    }
                    case 3 -> look = (look + 1) % 4;
                    default -> knelt[army]++;
                }
                begun = begun.minutes() == 1 ? null : new Figure(begun.kind(), begun.minutes() - 1);
            }
            tick();
        }

        private void tick() {
            minute++;
            if (minute == m) {
                minute = 0;
                hour++;
            }
        }

        private void step(int way) {
            if (way == 0 && y == 0 || way == 1 && x == w - 1 || way == 2 && y == h - 1 || way == 3 && x == 0) {
                piles[way]++;
                return;
            }
            switch (way) {
                case 0 -> y--;
                case 1 -> x++;
                case 2 -> y++;
                default -> x--;
            }
            mud.merge(cell(), 1, Integer::sum);
        }
    }

    private final StringBuilder text = new StringBuilder();
    private World told = new World();
    private World now = new World();
    private final Deque<World> undos = new ArrayDeque<>();
    private final World[] kept = new World[2];
    private final List<int[]> sightings = new ArrayList<>();

    /** What reading the text gave: its fault, and a world as it tells it. */
    private int faultAt;
    private int clauses;
    private World reading;
    private List<int[]> places;
    private List<String> tokens;
    private int at;

    int write(int letter) {
        if (letter < 0 || letter > 255) {
            return OUTSIDE;
        }
        if (text.length() == 160) {
            return FULL;
        }
        return text.append((char) letter).length();
    }

    int erase() {
        int had = text.length();
        text.setLength(0);
        return had;
    }

    int fault() {
        read();
        return faultAt;
    }

    int parade() {
        read();
        if (faultAt != NONE) {
            return NOT;
        }
        told = reading.copy();
        now = told.copy();
        text.setLength(0);
        undos.clear();
        sightings.clear();
        kept[0] = null;
        kept[1] = null;
        return clauses;
    }

    private void read() {
        reading = told.copy();
        faultAt = NONE;
        clauses = 0;
        at = 0;
        tokens = new ArrayList<>();
        places = new ArrayList<>();
        Matcher matcher = TOKEN.matcher(text);
        while (matcher.find()) {
            tokens.add(matcher.group());
            places.add(new int[] {matcher.start()});
        }
        do {
            readClause();
            clauses++;
        } while (faultAt == NONE && at < tokens.size() && readMore());
    }

    private boolean readMore() {
        if (!tokens.get(at).equals(";") || clauses == 14) {
            refuse();
            return false;
        }
        at++;
        return true;
    }

    private void refuse() {
        if (faultAt == NONE) {
            faultAt = at < places.size() ? places.get(at)[0] : text.length();
        }
    }

    private void readClause() {
        String word = at < tokens.size() ? tokens.get(at) : "";
        World before = reading;
        if (word.equals("ground")) {
            at++;
            int w = number(2, 6);
            int h = number(2, 6);
            reading = new World();
            reading.w = w;
            reading.h = h;
        } else if (word.equals("stand")) {
            at++;
            int cell = number(0, before.w * before.h - 1);
            reading.look = number(0, 3);
            reading.x = cell % before.w;
            reading.y = cell / before.w;
        } else if (word.equals("hour")) {
            at++;
            reading.m = number(2, 9);
        } else if (word.equals("rest")) {
            at++;
            reading.drills.get(number(0, 1)).clear();
        } else if (KINDS.contains(word)) {
            at++;
            int army = number(0, 1);
            if (reading.drills.get(army).size() == 8 && faultAt == NONE) {
                at--;
                refuse();
            }
            reading.drills.get(army).add(new Figure(KINDS.indexOf(word), number(1, 9)));
        } else {
            refuse();
        }
    }

    private int number(int least, int most) {
        if (faultAt != NONE) {
            return least;
        }
        String token = at < tokens.size() ? tokens.get(at) : "";
        if (!token.matches("[0-9]{1,2}") || Integer.parseInt(token) < least || Integer.parseInt(token) > most) {
            refuse();
            return least;
        }
        at++;
        return Integer.parseInt(token);
    }

    int mud(int cell) {
        return cell < 0 || cell >= now.w * now.h ? UNKNOWN : now.mud.getOrDefault(cell, 0);
    }

    private static boolean noArmy(int army) {
        return army != 0 && army != 1;
    }

    private static boolean out(int number, int least, int most) {
        return number < least || number > most;
    }

    int figure(int army, int k, int what) {
        if (noArmy(army) || out(k, 0, now.drills.get(army).size() - 1)) {
            return UNKNOWN;
        }
        if (out(what, 0, 1)) {
            return OUTSIDE;
        }
        Figure figure = new ArrayList<>(now.drills.get(army)).get(k);
        return what == 0 ? figure.kind() : figure.minutes();
    }

    int army(int army, int what) {
        if (noArmy(army)) {
            return UNKNOWN;
        }
        return switch (what) {
            case 0 -> now.drills.get(army).size();
            case 1 -> now.knelt[army];
            case 2 -> now.hour % 2 == army ? 1 : 0;
            default -> OUTSIDE;
        };
    }

    int as(int army, int kind) {
        if (noArmy(army)) {
            return UNKNOWN;
        }
        if (out(kind, 0, 5)) {
            return OUTSIDE;
        }
        Figure next = now.drills.get(army).peek();
        if (next == null) {
            return NOT;
        }
        boolean marches = next.kind() <= 2;
        boolean fits = kind == 0 || kind == 1 && marches || kind == next.kind() + 1;
        return !fits ? NOT : marches ? (next.kind() == 2 ? 2 : 1) : 0;
    }

    private void remember() {
        undos.push(now.copy());
        while (undos.size() > 8) {
            undos.removeLast();
        }
    }

    int pass(int n) {
        if (out(n, 1, 60)) {
            return OUTSIDE;
        }
        if (now.hour > 999) {
            return FULL;
        }
        remember();
        now = now.after(n);
        return now.cell();
    }

    int order(int army, int kind, int minutes) {
        if (noArmy(army)) {
            return UNKNOWN;
        }
        if (out(kind, 0, 4) || out(minutes, 1, 9)) {
            return OUTSIDE;
        }
        if (now.drills.get(army).size() == 8) {
            return FULL;
        }
        remember();
        now.drills.get(army).add(new Figure(kind, minutes));
        return now.drills.get(army).size();
    }

    int wind(int k) {
        if (out(k, 0, 8)) {
            return OUTSIDE;
        }
        remember();
        now = now.woundBy(k);
        return now.hour;
    }

    int undo() {
        if (undos.isEmpty()) {
            return NOT;
        }
        now = undos.pop();
        return undos.size();
    }

    int keep(int k) {
        if (out(k, 0, 1)) {
            return UNKNOWN;
        }
        kept[k] = now.copy();
        return now.hour;
    }

    int back(int k) {
        if (out(k, 0, 1)) {
            return UNKNOWN;
        }
        if (kept[k] == null) {
            return NOT;
        }
        now = kept[k].copy();
        undos.clear();
        return now.hour;
    }

    int behind(int n, int what) {
        if (out(n, 0, 99) || out(what, 0, 4)) {
            return OUTSIDE;
        }
        World then = now.after(n);
        return switch (what) {
            case 0 -> then.cell();
            case 1 -> then.look;
            case 2 -> then.mud.getOrDefault(then.cell(), 0);
            case 3 -> then.knelt[0];
            default -> then.knelt[1];
        };
    }

    int first(int army) {
        if (noArmy(army)) {
            return UNKNOWN;
        }
        World then = now.copy();
        for (int n = 1; n <= 99; n++) {
            then.go();
            if (then.knelt[army] > now.knelt[army]) {
                return n;
            }
        }
        return NONE;
    }

    int plot(int army, int n, int what) {
        if (noArmy(army)) {
            return UNKNOWN;
        }
        if (out(n, 1, 40) || out(what, 0, 2)) {
            return OUTSIDE;
        }
        if (now.drills.get(army).size() > 6) {
            return NOT;
        }
        int[] best = {NONE, NONE, NONE};
        for (int one = 0; one < 45; one++) {
            for (int two = 0; two < 45; two++) {
                World then = now.copy();
                then.drills.get(army).add(new Figure(one / 9, one % 9 + 1));
                then.drills.get(army).add(new Figure(two / 9, two % 9 + 1));
                for (int i = 0; i < n; i++) {
                    then.go();
                }
                int much = then.knelt[1 - army] - now.knelt[1 - army];
                if (then.knelt[army] == now.knelt[army] && much > best[0]) {
                    best = new int[] {much, one / 9 * 10 + one % 9 + 1, two / 9 * 10 + two % 9 + 1};
                }
            }
        }
        return best[what];
    }

    int seen(int cell, int n) {
        if (out(cell, 0, now.w * now.h - 1)) {
            return UNKNOWN;
        }
        if (out(n, 1, 60)) {
            return OUTSIDE;
        }
        if (sightings.size() == 6) {
            return FULL;
        }
        sightings.add(new int[] {cell, n});
        return sightings.size();
    }

    int forget() {
        int had = sightings.size();
        sightings.clear();
        return had;
    }

    private boolean allSo(World world) {
        return sightings.stream().allMatch(s -> world.after(s[1]).cell() == s[0]);
    }

    int wound() {
        int bits = 0;
        for (int k = 0; k <= 8; k++) {
            bits += allSo(now.woundBy(k)) ? 1 << k : 0;
        }
        return bits;
    }

    int ordered(int army, int what) {
        if (noArmy(army)) {
            return UNKNOWN;
        }
        if (out(what, 0, 1)) {
            return OUTSIDE;
        }
        if (now.drills.get(army).isEmpty()) {
            return NONE;
        }
        List<Integer> fitting = new ArrayList<>();
        for (int kind = 0; kind < 5; kind++) {
            for (int minutes = 1; minutes < 10; minutes++) {
                World world = now.copy();
                world.drills.get(army).poll();
                world.drills.get(army).addFirst(new Figure(kind, minutes));
                if (allSo(world)) {
                    fitting.add(10 * kind + minutes);
                }
            }
        }
        return what == 0 ? fitting.size() : fitting.isEmpty() ? NONE : fitting.get(0);
    }

    int inspected(int n, int q) {
        if (out(n, 0, 60) || out(q, 0, 10)) {
            return OUTSIDE;
        }
        World then = now.after(n);
        int kneeling = then.knelt[0] + then.knelt[1] - now.knelt[0] - now.knelt[1];
        long odds = 1000000000L;
        for (int i = 0; i < kneeling; i++) {
            odds = odds * (10 - q) / 10;
        }
        return (int) odds;
    }

    int count(int what) {
        return switch (what) {
            case 0 -> now.w;
            case 1 -> now.h;
            case 2 -> now.m;
            case 3 -> now.hour;
            case 4 -> now.minute;
            case 5 -> now.cell();
            case 6 -> now.look;
            case 7 -> now.begun == null ? NONE : now.begun.kind();
            case 8 -> now.begun == null ? 0 : now.begun.minutes();
            case 9 -> now.mud.values().stream().mapToInt(n -> n).sum();
            case 10, 11, 12, 13 -> now.piles[what - 10];
            case 14 -> sightings.size();
            case 15 -> undos.size();
            case 16 -> text.length();
            default -> OUTSIDE;
        };
    }
}
