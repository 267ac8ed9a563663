import java.util.ArrayDeque;
import java.util.ArrayList;
import java.util.Deque;
import java.util.HashSet;
import java.util.List;
import java.util.Set;
import java.util.TreeMap;

/** The document told a second time, in another way and without thrift, to compare answers with. */
final class Oracle {
    private static final int[][] STEPS = {{0, -1}, {1, -1}, {1, 0}, {1, 1}, {0, 1}, {-1, 1}, {-1, 0}, {-1, -1}};
    private static final String[] HEADINGS = {"N", "NE", "E", "SE", "S", "SW", "W", "NW"};
    private static final String LETTERS = "alrh";

    /** An error in a text. */
    private static final class TextError extends RuntimeException {
        private static final long serialVersionUID = 1;
        final int code;
        final int position;

        TextError(int code, int position) {
            this.code = code;
            this.position = position;
        }
    }

    private static final class Vessel {
        String name;
        int fleet;
        int column;
        int row;
        int heading;
        int hull = 20;
        int mass = 3;
        int sail = 5;
        int stiff = 1;
        int way = 0;
        int since = 4;
        int sank = -1;
        String orders = "aaaaaa";

        Vessel copy() {
            Vessel v = new Vessel();
            v.name = name;
            v.fleet = fleet;
            v.column = column;
            v.row = row;
            v.heading = heading;
            v.hull = hull;
            v.mass = mass;
            v.sail = sail;
            v.stiff = stiff;
            v.way = way;
            v.since = since;
            v.sank = sank;
            v.orders = orders;
            return v;
        }
    }

    private static final class Entry {
        List<String> letters = new ArrayList<>();
        List<Integer> seals = new ArrayList<>();
    }

    private static final class State {
        int columns = 10;
        int rows = 10;
        int turn = 0;
        int direction = 0;
        int force = 5;
        List<Vessel> ships = new ArrayList<>();
        List<Integer> points = new ArrayList<>();
        List<Integer> seals = new ArrayList<>();
        TreeMap<Integer, int[]> shifts = new TreeMap<>();
        TreeMap<Integer, Entry> log = new TreeMap<>();
        List<int[]> rams = new ArrayList<>();

        State copy() {
            State s = new State();
            s.columns = columns;
            s.rows = rows;
            s.turn = turn;
            s.direction = direction;
            s.force = force;
            for (Vessel v : ships) {
                s.ships.add(v.copy());
            }
            s.points.addAll(points);
            s.seals.addAll(seals);
            s.shifts.putAll(shifts);
            s.log.putAll(log);
            s.rams.addAll(rams);
            return s;
        }

        void addFleet() {
            points.add(0);
            seals.add(-1);
        }

        boolean lives(int fleet) {
            return ships.stream().anyMatch(v -> v.fleet == fleet && v.hull > 0);
        }
    }

    /** What a turn brings besides the state behind it. */
    private static final class Told {
        List<int[]> rams = new ArrayList<>();
        int[] cells = new int[12];
    }

    private State now = new State();
    private final Deque<State> past = new ArrayDeque<>();
    private final State[] slots = new State[2];
    private StringBuilder buffer = new StringBuilder();
    private String written = "";
    private int errorAt = -1;

    Oracle() {
        now.addFleet();
    }

    private void change() {
        past.addLast(now.copy());
        if (past.size() > 8) {
            past.removeFirst();
        }
    }

    private static void index(boolean right) {
        if (!right) {
            throw new IndexOutOfBoundsException();
        }
    }

    private static void argument(boolean right) {
        if (!right) {
            throw new IllegalArgumentException();
        }
    }

    private static void state(boolean right) {
        if (!right) {
            throw new IllegalStateException();
        }
    }

    private void aShip(int ship) {
        index(ship >= 0 && ship < now.ships.size());
    }

    private void aFleet(int fleet) {
        index(fleet >= 0 && fleet < now.points.size());
    }

    private static int angle(int a, int b) {
        int best = 99;
        for (int k = -8; k <= 8; k += 8) {
            best = Math.min(best, Math.abs(a - b + k));
        }
        return best;
    }

    // ---- the turn

    private static Told turn(State s, int pulses, boolean withShift) {
        if (withShift && s.shifts.containsKey(s.turn)) {
            s.direction = s.shifts.get(s.turn)[0];
            s.force = s.shifts.get(s.turn)[1];
        }
        Told told = new Told();
        for (int pulse = 0; pulse < pulses; pulse++) {
            pulse(s, pulse, told);
        }
        return told;
    }

    private static void pulse(State s, int pulse, Told told) {
        int n = s.ships.size();
        int[][] goal = new int[n][];
        boolean[] in = new boolean[n];
        List<Set<Integer>> struckBy = new ArrayList<>();
        for (int i = 0; i < n; i++) {
            struckBy.add(new HashSet<>());
            in[i] = s.ships.get(i).hull > 0;
        }
        for (int i = 0; i < n; i++) {
            Vessel v = s.ships.get(i);
            if (!in[i]) {
                continue;
            }
            char letter = v.orders.charAt(pulse);
            v.since = v.since == 4 ? 4 : v.since + 1;
            if (letter == 'l' && v.since > v.stiff) {
                v.heading = v.heading == 0 ? 7 : v.heading - 1;
                v.since = 0;
            } else if (letter == 'r' && v.since > v.stiff) {
                v.heading = v.heading == 7 ? 0 : v.heading + 1;
                v.since = 0;
            }
        }
        for (int i = 0; i < n; i++) {
            Vessel v = s.ships.get(i);
            if (!in[i] || v.orders.charAt(pulse) == 'h') {
                continue;
            }
            v.way += v.sail * s.force * factor(angle(v.heading, s.direction));
            if (v.way > 180) {
                v.way = 180;
            }
            if (v.way >= 90) {
                int c = v.column + STEPS[v.heading][0];
                int r = v.row + STEPS[v.heading][1];
                if (c < 0 || r < 0 || c >= s.columns || r >= s.rows) {
                    v.way = 0;
                } else {
                    goal[i] = new int[] {c, r};
                }
            }
        }
        boolean again = true;
        while (again) {
            again = false;
            for (int i = 0; i < n && !again; i++) {
                for (int j = i + 1; j < n && !again; j++) {
                    if (in[i] && in[j] && clash(s, goal, i, j)) {
                        told.rams.add(ram(s, goal, struckBy, pulse, i, j));
                        again = true;
                    }
                }
            }
        }
        for (int i = 0; i < n; i++) {
            Vessel v = s.ships.get(i);
            if (goal[i] != null) {
                v.column = goal[i][0];
                v.row = goal[i][1];
                v.way = v.way > 90 ? v.way - 90 : 0;
                told.cells[i]++;
            }
        }
        for (int i = 0; i < n; i++) {
            Vessel v = s.ships.get(i);
            if (in[i] && v.hull <= 0) {
                v.hull = 0;
                v.column = -1;
                v.row = -1;
                v.sank = s.turn;
                for (int f : struckBy.get(i)) {
                    if (f != v.fleet) {
                        s.points.set(f, s.points.get(f) + v.mass);
                    }
                }
            }
        }
    }

    private static int factor(int angle) {
        return angle == 0 ? 0 : angle == 1 ? 1 : angle == 3 ? 4 : 3;
    }

    private static int hurt(int angle) {
        return angle < 2 ? 1 : angle == 2 ? 3 : 2;
    }

    private static boolean same(int[] goal, Vessel v) {
        return goal != null && goal[0] == v.column && goal[1] == v.row;
    }

    private static boolean clash(State s, int[][] goal, int i, int j) {
        if (goal[i] != null && goal[j] != null && goal[i][0] == goal[j][0] && goal[i][1] == goal[j][1]) {
            return true;
        }
        boolean iToJ = same(goal[i], s.ships.get(j));
        boolean jToI = same(goal[j], s.ships.get(i));
        return iToJ && goal[j] == null || jToI && goal[i] == null || iToJ && jToI;
    }

    private static int[] ram(State s, int[][] goal, List<Set<Integer>> struckBy, int pulse, int i, int j) {
        Vessel a = s.ships.get(i);
        Vessel b = s.ships.get(j);
        int hurt = hurt(angle(a.heading, b.heading));
        int lostA = 0;
        int lostB = 0;
        if (goal[i] != null) {
            lostB += a.mass * hurt;
            lostA += b.mass / 2;
            struckBy.get(j).add(a.fleet);
        }
        if (goal[j] != null) {
            lostA += b.mass * hurt;
            lostB += a.mass / 2;
            struckBy.get(i).add(b.fleet);
        }
        a.hull -= lostA;
        b.hull -= lostB;
        a.way = 0;
        b.way = 0;
        boolean one = goal[i] != null && goal[j] != null && goal[i][0] == goal[j][0] && goal[i][1] == goal[j][1];
        if (one && a.mass >= b.mass) {
            goal[j] = null;
        } else if (one) {
            goal[i] = null;
        } else {
            goal[i] = null;
            goal[j] = null;
        }
        return new int[] {pulse, i, j, lostA, lostB};
    }

    // ---- texts

    /** Reads tokens from a text. */
    private static final class Scanner {
        final String text;
        int at = 0;
        int start;

        Scanner(String text) {
            this.text = text;
        }

        private void spaces() {
            while (at < text.length() && text.charAt(at) == ' ') {
                at++;
            }
            start = at;
        }

        String peek() {
            spaces();
            int end = at;
            while (end < text.length() && text.charAt(end) >= 'a' && text.charAt(end) <= 'z') {
                end++;
            }
            return text.substring(at, end);
        }

        String word() {
            String word = peek();
            if (word.isEmpty()) {
                throw new TextError(-2, start);
            }
            at += word.length();
            return word;
        }

        String name() {
            String word = word();
            if (word.length() > 8) {
                throw new TextError(-2, start);
            }
            return word;
        }

        void exactly(String want) {
            if (!word().equals(want)) {
                throw new TextError(-2, start);
            }
        }

        int number(int least, int most) {
            spaces();
            int end = at;
            while (end < text.length() && Character.digit(text.charAt(end), 10) >= 0 && text.charAt(end) < 128) {
                end++;
            }
            if (end == at) {
                throw new TextError(-2, start);
            }
            java.math.BigInteger n = new java.math.BigInteger(text.substring(at, end));
            at = end;
            if (n.compareTo(java.math.BigInteger.valueOf(least)) < 0
                || n.compareTo(java.math.BigInteger.valueOf(most)) > 0) {
                throw new TextError(-3, start);
            }
            return n.intValue();
        }

        void semicolon() {
            spaces();
            if (at >= text.length() || text.charAt(at) != ';') {
                throw new TextError(-2, start);
            }
            at++;
        }

        boolean ended() {
            spaces();
            return at == text.length();
        }

        void unless(boolean wrong, int code) {
            if (wrong) {
                throw new TextError(code, start);
            }
        }
    }

    private static State sheet(String text) {
        Scanner in = new Scanner(text);
        State s = new State();
        in.exactly("sheet");
        s.columns = in.number(4, 30);
        s.rows = in.number(4, 30);
        in.semicolon();
        if (in.peek().equals("wind")) {
            in.word();
            s.direction = in.number(0, 7);
            s.force = in.number(0, 9);
            in.semicolon();
        }
        while (in.peek().equals("shift")) {
            in.unless(s.shifts.size() == 8, -6);
            in.word();
            int turn = in.number(0, 999);
            in.unless(s.shifts.containsKey(turn), -4);
            s.shifts.put(turn, new int[] {in.number(0, 7), in.number(0, 9)});
            in.semicolon();
        }
        Set<String> fleets = new HashSet<>();
        do {
            in.peek();
            in.unless(!in.peek().equals("fleet"), -2);
            in.unless(fleets.size() == 4, -6);
            in.word();
            String name = in.name();
            in.unless(!fleets.add(name), -4);
            s.addFleet();
            in.semicolon();
            while (in.peek().equals("ship")) {
                in.unless(s.ships.size() == 12, -6);
                in.word();
                s.ships.add(vessel(in, s, fleets.size() - 1));
            }
        } while (!in.ended());
        return s;
    }

    private static Vessel vessel(Scanner in, State s, int fleet) {
        Vessel v = new Vessel();
        v.fleet = fleet;
        v.name = in.name();
        in.unless(s.ships.stream().anyMatch(o -> o.name.equals(v.name)), -4);
        v.column = in.number(0, s.columns - 1);
        v.row = in.number(0, s.rows - 1);
        v.heading = in.number(0, 7);
        in.unless(s.ships.stream().anyMatch(o -> o.column == v.column && o.row == v.row), -5);
        Set<String> told = new HashSet<>();
        while (!in.peek().isEmpty()) {
            String word = in.word();
            in.unless(told.contains(word), -4);
            told.add(word);
            switch (word) {
                case "hull": v.hull = in.number(1, 99); break;
                case "mass": v.mass = in.number(1, 9); break;
                case "sail": v.sail = in.number(1, 9); break;
                case "stiff": v.stiff = in.number(0, 3); break;
                default: throw new TextError(-2, in.start);
            }
        }
        in.semicolon();
        return v;
    }

    private static int orders(String text, State s, int fleet) {
        Scanner in = new Scanner(text);
        for (Vessel v : s.ships) {
            if (v.fleet == fleet) {
                v.orders = "aaaaaa";
            }
        }
        Set<String> told = new HashSet<>();
        while (!in.ended()) {
            String name = in.name();
            Vessel named = null;
            for (Vessel v : s.ships) {
                if (v.name.equals(name) && v.fleet == fleet && v.hull > 0) {
                    named = v;
                }
            }
            in.unless(named == null, -7);
            in.unless(!told.add(name), -4);
            String letters = in.word();
            for (int i = 0; i < letters.length(); i++) {
                if (i == 6 || LETTERS.indexOf(letters.charAt(i)) < 0) {
                    throw new TextError(-3, in.start + i);
                }
            }
            in.semicolon();
            named.orders = (letters + "aaaaaa").substring(0, 6);
        }
        return told.size();
    }

    // ---- the face

    int append(int a, int b, int c, int d, int e) {
        StringBuilder more = new StringBuilder();
        for (int four : new int[] {a, b, c, d, e}) {
            for (int k = 3; k >= 0; k--) {
                char one = (char) (four >>> (8 * k) & 255);
                if (one != 0) {
                    more.append(one);
                }
            }
        }
        state(buffer.length() + more.length() <= 600);
        buffer.append(more);
        return buffer.length();
    }

    int load() {
        String text = buffer.toString();
        buffer = new StringBuilder();
        errorAt = -1;
        try {
            State s = sheet(text);
            change();
            now = s;
            return s.ships.size();
        } catch (TextError e) {
            errorAt = e.position;
            return e.code;
        }
    }

    int errorPosition() {
        return errorAt;
    }

    int count(int what) {
        argument(what >= 0 && what <= 10);
        int floating = (int) now.ships.stream().filter(v -> v.hull > 0).count();
        int only = -1;
        for (int f = 0; f < now.points.size(); f++) {
            if (now.lives(f)) {
                only = only == -1 ? f : -2;
                if (only == -2) {
                    break;
                }
            }
        }
        int[] all = {now.columns, now.rows, now.points.size(), now.ships.size(), now.turn, now.direction,
            now.force, now.rams.size(), now.log.size(), floating, only < 0 ? -1 : only};
        return all[what];
    }

    private static int number(Vessel v, int what) {
        int[] all = {v.fleet, v.column, v.row, v.heading, v.hull, v.mass, v.sail, v.stiff, v.way, v.since, v.sank};
        return all[what];
    }

    int ship(int ship, int what) {
        aShip(ship);
        argument(what >= 0 && what <= 10);
        return number(now.ships.get(ship), what);
    }

    int fleet(int fleet, int what) {
        aFleet(fleet);
        argument(what >= 0 && what <= 4);
        int set = 0;
        int hull = 0;
        int letters = 0;
        for (int i = 0; i < now.ships.size(); i++) {
            Vessel v = now.ships.get(i);
            if (v.fleet == fleet && v.hull > 0) {
                set += 1 << i;
                hull += v.hull;
                letters += v.orders.replace("a", "").length();
            }
        }
        int[] all = {set, now.points.get(fleet), hull, now.seals.get(fleet) < 0 ? 0 : 1, letters};
        return all[what];
    }

    int at(int column, int row) {
        index(column >= 0 && row >= 0 && column < now.columns && row < now.rows);
        for (int i = 0; i < now.ships.size(); i++) {
            if (now.ships.get(i).column == column && now.ships.get(i).row == row) {
                return i;
            }
        }
        return -1;
    }

    int order(int ship, int pulse) {
        aShip(ship);
        index(pulse >= 0 && pulse < 6);
        return 1 + LETTERS.indexOf(now.ships.get(ship).orders.charAt(pulse));
    }

    int gain(int ship, int heading) {
        aShip(ship);
        argument(heading >= 0 && heading < 8);
        return now.ships.get(ship).sail * now.force * factor(angle(heading, now.direction));
    }

    int sees(int fleet, int ship) {
        aFleet(fleet);
        aShip(ship);
        Vessel v = now.ships.get(ship);
        if (v.fleet == fleet) {
            return 1;
        }
        for (Vessel o : now.ships) {
            if (v.hull > 0 && o.fleet == fleet && o.hull > 0
                && Math.max(Math.abs(o.column - v.column), Math.abs(o.row - v.row)) < 6) {
                return 1;
            }
        }
        return 0;
    }

    int shift(int turn, int what) {
        argument(turn >= 0 && turn <= 999 && (what == 0 || what == 1));
        return now.shifts.containsKey(turn) ? now.shifts.get(turn)[what] : -1;
    }

    int ram(int ram, int what) {
        index(ram >= 0 && ram < now.rams.size());
        argument(what >= 0 && what < 5);
        return now.rams.get(ram)[what];
    }

    int sealOf(int turn, int fleet) {
        index(turn == now.turn || now.log.containsKey(turn));
        aFleet(fleet);
        return turn == now.turn ? now.seals.get(fleet) : now.log.get(turn).seals.get(fleet);
    }

    private static int makeSeal(List<Vessel> ships, List<String> letters, int fleet, int key) {
        long s = key;
        for (int i = 0; i < ships.size(); i++) {
            if (ships.get(i).fleet == fleet) {
                for (char c : letters.get(i).toCharArray()) {
                    s = (31 * s + LETTERS.indexOf(c) + 1) % 1000003;
                }
            }
        }
        return (int) s;
    }

    private static List<String> letters(State s) {
        List<String> letters = new ArrayList<>();
        for (Vessel v : s.ships) {
            letters.add(v.hull > 0 ? v.orders : "");
        }
        return letters;
    }

    int check(int turn, int fleet, int key) {
        index(now.log.containsKey(turn));
        aFleet(fleet);
        Entry e = now.log.get(turn);
        boolean right = key >= 0 && key <= 999999 && e.seals.get(fleet) >= 0
            && makeSeal(now.ships, e.letters, fleet, key) == e.seals.get(fleet);
        return right ? 1 : 0;
    }

    int logged(int turn, int ship, int pulse) {
        index(now.log.containsKey(turn));
        aShip(ship);
        index(pulse >= 0 && pulse < 6);
        String letters = now.log.get(turn).letters.get(ship);
        return letters.isEmpty() ? 0 : 1 + LETTERS.indexOf(letters.charAt(pulse));
    }

    int after(int ship, int what) {
        aShip(ship);
        argument(what >= 0 && what <= 10);
        State s = now.copy();
        turn(s, 6, true);
        return number(s.ships.get(ship), what);
    }

    int course(int ship, int pulses) {
        aShip(ship);
        index(now.ships.get(ship).hull > 0);
        argument(pulses >= 0 && pulses <= 6);
        State s = now.copy();
        Vessel alone = s.ships.get(ship);
        s.ships.clear();
        s.ships.add(alone);
        turn(s, pulses, true);
        return 100 * alone.column + alone.row;
    }

    int meet(int ship, int other) {
        aShip(ship);
        aShip(other);
        Told told = turn(now.copy(), 6, true);
        for (int[] ram : told.rams) {
            if (ram[1] == Math.min(ship, other) && ram[2] == Math.max(ship, other)) {
                return ram[0];
            }
        }
        return -1;
    }

    int spares(int ship, int pulse) {
        aShip(ship);
        index(pulse >= 0 && pulse < 6);
        int[] hulls = new int[4];
        int best = 0;
        for (int k = 0; k < 4; k++) {
            State s = now.copy();
            StringBuilder orders = new StringBuilder(s.ships.get(ship).orders);
            orders.setCharAt(pulse, LETTERS.charAt(k));
            s.ships.get(ship).orders = orders.toString();
            turn(s, 6, true);
            hulls[k] = s.ships.get(ship).hull;
            best = hulls[k] > hulls[best] ? k : best;
        }
        return best + 1;
    }

    int bestWind(int fleet) {
        aFleet(fleet);
        int best = 0;
        int most = -1;
        for (int direction = 0; direction < 8; direction++) {
            State s = now.copy();
            s.direction = direction;
            turn(s, 6, false);
            int sum = s.ships.stream().filter(v -> v.fleet == fleet).mapToInt(v -> v.hull).sum();
            if (sum > most) {
                most = sum;
                best = direction;
            }
        }
        return best;
    }

    float pace(int fleet) {
        aFleet(fleet);
        Told told = turn(now.copy(), 6, true);
        int cells = 0;
        int ships = 0;
        for (int i = 0; i < now.ships.size(); i++) {
            if (now.ships.get(i).fleet == fleet && now.ships.get(i).hull > 0) {
                cells += told.cells[i];
                ships++;
            }
        }
        return ships == 0 ? 0 : (float) cells / (float) ships;
    }

    int write(int fleet) {
        aFleet(fleet);
        state(now.seals.get(fleet) < 0);
        String text = buffer.toString();
        buffer = new StringBuilder();
        errorAt = -1;
        try {
            State s = now.copy();
            int named = orders(text, s, fleet);
            change();
            now = s;
            return named;
        } catch (TextError e) {
            errorAt = e.position;
            return e.code;
        }
    }

    int seal(int fleet, int key) {
        aFleet(fleet);
        argument(key >= 0 && key <= 999999);
        state(now.seals.get(fleet) < 0);
        change();
        now.seals.set(fleet, makeSeal(now.ships, letters(now), fleet, key));
        return now.seals.get(fleet);
    }

    int run() {
        for (int f = 0; f < now.points.size(); f++) {
            state(now.seals.get(f) >= 0 || !now.lives(f));
        }
        state(now.turn < 1000);
        change();
        Entry entry = new Entry();
        entry.letters = letters(now);
        entry.seals.addAll(now.seals);
        Told told = turn(now, 6, true);
        now.rams = new ArrayList<>(told.rams.subList(0, Math.min(30, told.rams.size())));
        now.log.put(now.turn, entry);
        if (now.log.size() > 10) {
            now.log.pollFirstEntry();
        }
        now.turn++;
        for (Vessel v : now.ships) {
            v.orders = "aaaaaa";
        }
        now.seals.replaceAll(old -> -1);
        return told.rams.size();
    }

    int setWind(int direction, int force) {
        argument(direction >= 0 && direction <= 7 && force >= 0 && force <= 9);
        change();
        int before = 10 * now.direction + now.force;
        now.direction = direction;
        now.force = force;
        return before;
    }

    int undo() {
        state(!past.isEmpty());
        now = past.removeLast();
        return past.size();
    }

    int save(int slot) {
        index(slot == 0 || slot == 1);
        slots[slot] = now.copy();
        return 0;
    }

    int restore(int slot) {
        index(slot == 0 || slot == 1);
        state(slots[slot] != null);
        change();
        now = slots[slot].copy();
        return now.turn;
    }

    int writeShips() {
        List<String> all = new ArrayList<>();
        for (Vessel v : now.ships) {
            if (v.hull > 0) {
                all.add(v.name + "=" + v.column + "," + v.row + HEADINGS[v.heading] + "/" + v.hull);
            }
        }
        written = String.join(" ", all);
        return written.length();
    }

    int writtenByte(int index) {
        index(index >= 0 && index < written.length());
        return written.charAt(index);
    }
}
