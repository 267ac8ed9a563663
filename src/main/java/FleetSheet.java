import java.util.Arrays;

/** A sheet on which fleets under sail are plotted; ../shared/DOC.md tells what it does. */
public final class FleetSheet {
    public static final int NONE = -1;
    public static final int SYNTAX_ERROR = -2;
    public static final int VALUE_ERROR = -3;
    public static final int TWICE = -4;
    public static final int MISFIT = -5;
    public static final int TOO_MANY = -6;
    public static final int UNKNOWN = -7;

    private static final int MAX_TEXT = 600;
    private static final int MAX_NAME = 8;
    private static final int MAX_FLEETS = 4;
    private static final int MAX_SHIPS = 12;
    private static final int MAX_SHIFTS = 8;
    private static final int MAX_RAMS = 30;
    private static final int MAX_TURNS = 1000;
    private static final int MAX_UNDO = 8;
    private static final int MAX_KEY = 999999;
    private static final int SLOTS = 2;
    private static final int PULSES = 6;
    private static final int LOG_TURNS = 10;
    private static final int DIRECTIONS = 8;
    private static final int SIGHT = 5;

    // The numbers of a ship, in the order in which the document tells them.
    private static final int FLEET = 0;
    private static final int COLUMN = 1;
    private static final int ROW = 2;
    private static final int HEADING = 3;
    private static final int HULL = 4;
    private static final int MASS = 5;
    private static final int SAIL = 6;
    private static final int STIFFNESS = 7;
    private static final int WAY = 8;
    private static final int SINCE = 9;
    private static final int SANK = 10;
    private static final int SHIP_NUMBERS = 11;

    private static final int SHIFT_NUMBERS = 3;
    private static final int RAM_NUMBERS = 5;

    private static final int AHEAD = 1;
    private static final int LEFT = 2;
    private static final int RIGHT = 3;
    private static final int HEAVE = 4;

    private final Grammar grammar = new Grammar();
    private final Text text = grammar.text;
    private final Sheet now = new Sheet();
    // Holds what is read and what would be, until the call has its answer.
    private final Sheet draft = new Sheet();
    private final Turn sailing = new Turn();
    private final History history = new History();
    private final Shelf saved = new Shelf(SLOTS);
    private final boolean[] isSaved = new boolean[SLOTS];
    private final Written written = new Written();

    public FleetSheet() {
        now.clear();
        now.columns = 10;
        now.rows = 10;
        now.fleets = 1;
    }

    // ---- setup

    public int append(int a, int b, int c, int d, int e) throws IllegalStateException {
        int more = bytesIn(a) + bytesIn(b) + bytesIn(c) + bytesIn(d) + bytesIn(e);
        if (text.length + more > MAX_TEXT) {
            throw new IllegalStateException("the text would be too long");
        }
        text.addBytes(a);
        text.addBytes(b);
        text.addBytes(c);
        text.addBytes(d);
        text.addBytes(e);
        return text.length;
    }

    public int load() {
        boolean isRead = grammar.readSheet(draft);
        text.length = 0;
        if (!isRead) {
            return text.error;
        }
        history.keep(now);
        now.copyFrom(draft);
        return now.ships;
    }

    public int errorPosition() {
        return text.errorAt;
    }

    public int count(int what) throws IllegalArgumentException {
        switch (what) {
            case 0: return now.columns;
            case 1: return now.rows;
            case 2: return now.fleets;
            case 3: return now.ships;
            case 4: return now.turn;
            case 5: return now.windFrom;
            case 6: return now.windForce;
            case 7: return now.rams;
            case 8: return Math.min(now.turn, LOG_TURNS);
            case 9: return now.floatingShips();
            case 10: return now.onlyFleet();
            default: throw new IllegalArgumentException("no such number of a sheet");
        }
    }

    public int ship(int ship, int what) throws IndexOutOfBoundsException, IllegalArgumentException {
        needShip(ship);
        needShipNumber(what);
        return now.get(ship, what);
    }

    public int fleet(int fleet, int what) throws IndexOutOfBoundsException, IllegalArgumentException {
        needFleet(fleet);
        switch (what) {
            case 0: return now.shipsOf(fleet);
            case 1: return now.points[fleet];
            case 2: return now.hullOf(fleet);
            case 3: return now.hasSealed(fleet) ? 1 : 0;
            case 4: return now.maneuversOf(fleet);
            default: throw new IllegalArgumentException("no such number of a fleet");
        }
    }

    public int at(int column, int row) throws IndexOutOfBoundsException {
        if (!now.hasCell(column, row)) {
            throw new IndexOutOfBoundsException("no such cell");
        }
        return now.shipIn(column, row);
    }

    public int order(int ship, int pulse) throws IndexOutOfBoundsException {
        needShip(ship);
        needPulse(pulse);
        return Orders.letter(now.orders[ship], pulse);
    }

    public int gain(int ship, int heading) throws IndexOutOfBoundsException, IllegalArgumentException {
        needShip(ship);
        if (!isDirection(heading)) {
            throw new IllegalArgumentException("no such heading");
        }
        return now.growth(ship, heading);
    }

    public boolean sees(int fleet, int ship) throws IndexOutOfBoundsException {
        needFleet(fleet);
        needShip(ship);
        return now.isSeenBy(fleet, ship);
    }

    public int shift(int turn, int what) throws IllegalArgumentException {
        if (turn < 0 || turn >= MAX_TURNS) {
            throw new IllegalArgumentException("no such turn");
        }
        if (what < 0 || what > 1) {
            throw new IllegalArgumentException("no such number of a shift");
        }
        int row = now.shiftOf(turn);
        return row == NONE ? NONE : now.shiftNumber(row, what + 1);
    }

    public int ram(int ram, int what) throws IndexOutOfBoundsException, IllegalArgumentException {
        if (ram < 0 || ram >= now.rams) {
            throw new IndexOutOfBoundsException("no such ram");
        }
        if (what < 0 || what >= RAM_NUMBERS) {
            throw new IllegalArgumentException("no such number of a ram");
        }
        return now.ramRows[ram * RAM_NUMBERS + what];
    }

    // ---- the log

    public int sealOf(int turn, int fleet) throws IndexOutOfBoundsException {
        if (turn != now.turn && !now.isLogged(turn)) {
            throw new IndexOutOfBoundsException("no such turn");
        }
        needFleet(fleet);
        return now.sealIn(turn, fleet);
    }

    public boolean check(int turn, int fleet, int key) throws IndexOutOfBoundsException {
        needLogged(turn);
        needFleet(fleet);
        return isKey(key) && now.sealBy(turn, fleet, key) == now.sealIn(turn, fleet);
    }

    public int logged(int turn, int ship, int pulse) throws IndexOutOfBoundsException {
        needLogged(turn);
        needShip(ship);
        needPulse(pulse);
        return Orders.letter(now.ordersIn(turn, ship), pulse);
    }

    // ---- what would be

    public int after(int ship, int what) throws IndexOutOfBoundsException, IllegalArgumentException {
        needShip(ship);
        needShipNumber(what);
        runDraft();
        return draft.get(ship, what);
    }

    public int course(int ship, int pulses) throws IndexOutOfBoundsException, IllegalArgumentException {
        needShip(ship);
        if (!now.floats(ship)) {
            throw new IndexOutOfBoundsException("this ship is sunk");
        }
        if (pulses < 0 || pulses > PULSES) {
            throw new IllegalArgumentException("no such number of pulses");
        }
        draft.copyFrom(now);
        draft.removeAllBut(ship);
        draft.shiftWind();
        sailing.carryOut(draft, pulses);
        return cellOf(draft.get(ship, COLUMN), draft.get(ship, ROW));
    }

    public int meet(int ship, int other) throws IndexOutOfBoundsException {
        needShip(ship);
        needShip(other);
        runDraft();
        return sailing.firstRams[ship * MAX_SHIPS + other];
    }

    public int spares(int ship, int pulse) throws IndexOutOfBoundsException {
        needShip(ship);
        needPulse(pulse);
        int best = AHEAD;
        int most = NONE;
        for (int letter = AHEAD; letter <= HEAVE; letter++) {
            draft.copyFrom(now);
            draft.orders[ship] = Orders.with(draft.orders[ship], pulse, letter);
            draft.shiftWind();
            sailing.carryOut(draft, PULSES);
            int hull = draft.get(ship, HULL);
            if (hull > most) {
                most = hull;
                best = letter;
            }
        }
        return best;
    }

    public int bestWind(int fleet) throws IndexOutOfBoundsException {
        needFleet(fleet);
        int best = 0;
        int most = NONE;
        for (int direction = 0; direction < DIRECTIONS; direction++) {
            draft.copyFrom(now);
            draft.windFrom = direction;
            sailing.carryOut(draft, PULSES);
            int hull = draft.hullOf(fleet);
            if (hull > most) {
                most = hull;
                best = direction;
            }
        }
        return best;
    }

    public float pace(int fleet) throws IndexOutOfBoundsException {
        needFleet(fleet);
        runDraft();
        int cells = 0;
        int ships = 0;
        for (int ship = 0; ship < now.ships; ship++) {
            if (now.isFloatingIn(fleet, ship)) {
                cells += sailing.cellsGone[ship];
                ships++;
            }
        }
        return ships == 0 ? 0f : (float) cells / (float) ships;
    }

    // ---- changes

    public int write(int fleet) throws IndexOutOfBoundsException, IllegalStateException {
        needFleet(fleet);
        if (now.hasSealed(fleet)) {
            throw new IllegalStateException("this fleet has sealed");
        }
        draft.copyFrom(now);
        boolean isRead = grammar.readOrders(draft, fleet);
        text.length = 0;
        if (!isRead) {
            return text.error;
        }
        history.keep(now);
        now.copyFrom(draft);
        return grammar.named;
    }

    public int seal(int fleet, int key)
            throws IndexOutOfBoundsException, IllegalArgumentException, IllegalStateException {
        needFleet(fleet);
        if (!isKey(key)) {
            throw new IllegalArgumentException("no such key");
        }
        if (now.hasSealed(fleet)) {
            throw new IllegalStateException("this fleet has sealed");
        }
        history.keep(now);
        now.seals[fleet] = now.sealBy(now.turn, fleet, key);
        return now.seals[fleet];
    }

    public int run() throws IllegalStateException {
        if (!now.areAllSealed()) {
            throw new IllegalStateException("a fleet has not sealed");
        }
        if (now.turn >= MAX_TURNS) {
            throw new IllegalStateException("there are no more turns");
        }
        history.keep(now);
        now.logTurn();
        now.shiftWind();
        sailing.carryOut(now, PULSES);
        now.turn++;
        now.beginTurn();
        return sailing.rams;
    }

    public int setWind(int direction, int force) throws IllegalArgumentException {
        if (!isDirection(direction)) {
            throw new IllegalArgumentException("no such direction");
        }
        if (force < 0 || force > 9) {
            throw new IllegalArgumentException("no such force");
        }
        history.keep(now);
        int before = 10 * now.windFrom + now.windForce;
        now.windFrom = direction;
        now.windForce = force;
        return before;
    }

    public int undo() throws IllegalStateException {
        if (history.kept == 0) {
            throw new IllegalStateException("there is no change to undo");
        }
        history.bringBack(now);
        return history.kept;
    }

    public void save(int slot) throws IndexOutOfBoundsException {
        needSlot(slot);
        saved.put(slot, now);
        isSaved[slot] = true;
    }

    public int restore(int slot) throws IndexOutOfBoundsException, IllegalStateException {
        needSlot(slot);
        if (!isSaved[slot]) {
            throw new IllegalStateException("nothing is saved there");
        }
        history.keep(now);
        saved.take(slot, now);
        return now.turn;
    }

    // ---- texts

    public int writeShips() {
        written.length = 0;
        for (int ship = 0; ship < now.ships; ship++) {
            if (now.floats(ship)) {
                written.addShip(now, ship);
            }
        }
        return written.length;
    }

    public int writtenByte(int index) throws IndexOutOfBoundsException {
        if (index < 0 || index >= written.length) {
            throw new IndexOutOfBoundsException("no such byte");
        }
        return written.bytes[index];
    }

    // ---- what the calls share

    private void needShip(int ship) {
        if (ship < 0 || ship >= now.ships) {
            throw new IndexOutOfBoundsException("no such ship");
        }
    }

    private static void needShipNumber(int what) {
        if (what < 0 || what >= SHIP_NUMBERS) {
            throw new IllegalArgumentException("no such number of a ship");
        }
    }

    private void needFleet(int fleet) {
        if (fleet < 0 || fleet >= now.fleets) {
            throw new IndexOutOfBoundsException("no such fleet");
        }
    }

    private static void needPulse(int pulse) {
        if (pulse < 0 || pulse >= PULSES) {
            throw new IndexOutOfBoundsException("no such pulse");
        }
    }

    private void needLogged(int turn) {
        if (!now.isLogged(turn)) {
            throw new IndexOutOfBoundsException("no such turn in the log");
        }
    }

    private static void needSlot(int slot) {
        if (slot < 0 || slot >= SLOTS) {
            throw new IndexOutOfBoundsException("no such slot");
        }
    }

    private void runDraft() {
        draft.copyFrom(now);
        draft.shiftWind();
        sailing.carryOut(draft, PULSES);
    }

    private static boolean isDirection(int direction) {
        return direction >= 0 && direction < DIRECTIONS;
    }

    private static boolean isKey(int key) {
        return key >= 0 && key <= MAX_KEY;
    }

    private static int bytesIn(int four) {
        int bytes = 0;
        for (int shift = 24; shift >= 0; shift -= 8) {
            if (((four >> shift) & 255) != 0) {
                bytes++;
            }
        }
        return bytes;
    }

    private static int angleOf(int one, int other) {
        int clockwise = (one - other) & 7;
        return clockwise > 4 ? 8 - clockwise : clockwise;
    }

    /** A cell as one number, which is also what course() answers. */
    private static int cellOf(int column, int row) {
        return 100 * column + row;
    }

    /** The six letters of a ship in one number, three bits each; 0 for a ship that has none. */
    private static final class Orders {
        static final int ALL_AHEAD = 0111111;

        static int letter(int orders, int pulse) {
            return (orders >> (3 * pulse)) & 7;
        }

        static int with(int orders, int pulse, int letter) {
            return (orders & ~(7 << (3 * pulse))) | (letter << (3 * pulse));
        }
    }

    /** All that undo brings back. */
    private static final class Sheet {
        private static final int[] FACTORS = {0, 1, 3, 4, 3};

        int columns;
        int rows;
        int fleets;
        int ships;
        int turn;
        int windFrom;
        int windForce;
        int shifts;
        int rams;
        final long[] names = new long[MAX_SHIPS];
        final int[] shipRows = new int[MAX_SHIPS * SHIP_NUMBERS];
        final int[] orders = new int[MAX_SHIPS];
        final int[] shiftRows = new int[MAX_SHIFTS * SHIFT_NUMBERS];
        final int[] ramRows = new int[MAX_RAMS * RAM_NUMBERS];
        final int[] points = new int[MAX_FLEETS];
        final int[] seals = new int[MAX_FLEETS];
        final int[] loggedOrders = new int[LOG_TURNS * MAX_SHIPS];
        final int[] loggedSeals = new int[LOG_TURNS * MAX_FLEETS];

        void clear() {
            columns = 0;
            rows = 0;
            fleets = 0;
            ships = 0;
            turn = 0;
            windFrom = 0;
            windForce = 5;
            shifts = 0;
            rams = 0;
            Arrays.fill(points, 0);
            beginTurn();
        }

        void beginTurn() {
            Arrays.fill(orders, Orders.ALL_AHEAD);
            Arrays.fill(seals, NONE);
        }

        void copyFrom(Sheet other) {
            columns = other.columns;
            rows = other.rows;
            fleets = other.fleets;
            ships = other.ships;
            turn = other.turn;
            windFrom = other.windFrom;
            windForce = other.windForce;
            shifts = other.shifts;
            rams = other.rams;
            System.arraycopy(other.names, 0, names, 0, names.length);
            copyRow(other.shipRows, shipRows);
            copyRow(other.orders, orders);
            copyRow(other.shiftRows, shiftRows);
            copyRow(other.ramRows, ramRows);
            copyRow(other.points, points);
            copyRow(other.seals, seals);
            copyRow(other.loggedOrders, loggedOrders);
            copyRow(other.loggedSeals, loggedSeals);
        }

        private static void copyRow(int[] from, int[] to) {
            System.arraycopy(from, 0, to, 0, Math.min(from.length, to.length));
        }

        int get(int ship, int what) {
            return shipRows[ship * SHIP_NUMBERS + what];
        }

        void set(int ship, int what, int number) {
            shipRows[ship * SHIP_NUMBERS + what] = number;
        }

        /** A new ship, which is counted by ships only when all of it is read. */
        void setShip(int ship, int fleet, long name) {
            names[ship] = name;
            set(ship, FLEET, fleet);
            set(ship, HULL, 20);
            set(ship, MASS, 3);
            set(ship, SAIL, 5);
            set(ship, STIFFNESS, 1);
            set(ship, WAY, 0);
            set(ship, SINCE, 4);
            set(ship, SANK, NONE);
        }

        boolean floats(int ship) {
            return get(ship, COLUMN) != NONE;
        }

        boolean isFloatingIn(int fleet, int ship) {
            return get(ship, FLEET) == fleet && floats(ship);
        }

        void takeOff(int ship) {
            set(ship, COLUMN, NONE);
            set(ship, ROW, NONE);
        }

        void removeAllBut(int ship) {
            for (int other = 0; other < ships; other++) {
                if (other != ship) {
                    takeOff(other);
                }
            }
        }

        boolean hasCell(int column, int row) {
            return column >= 0 && column < columns && row >= 0 && row < rows;
        }

        int shipIn(int column, int row) {
            for (int ship = 0; ship < ships; ship++) {
                if (get(ship, COLUMN) == column && get(ship, ROW) == row) {
                    return ship;
                }
            }
            return NONE;
        }

        int shipNamed(long name) {
            for (int ship = 0; ship < ships; ship++) {
                if (names[ship] == name) {
                    return ship;
                }
            }
            return NONE;
        }

        int shipsOf(int fleet) {
            int set = 0;
            for (int ship = 0; ship < ships; ship++) {
                if (isFloatingIn(fleet, ship)) {
                    set |= 1 << ship;
                }
            }
            return set;
        }

        int floatingShips() {
            int floating = 0;
            for (int fleet = 0; fleet < fleets; fleet++) {
                floating += Integer.bitCount(shipsOf(fleet));
            }
            return floating;
        }

        int onlyFleet() {
            int only = NONE;
            for (int fleet = 0; fleet < fleets; fleet++) {
                if (shipsOf(fleet) != 0) {
                    if (only != NONE) {
                        return NONE;
                    }
                    only = fleet;
                }
            }
            return only;
        }

        int hullOf(int fleet) {
            int sum = 0;
            for (int ship = 0; ship < ships; ship++) {
                if (isFloatingIn(fleet, ship)) {
                    sum += get(ship, HULL);
                }
            }
            return sum;
        }

        int maneuversOf(int fleet) {
            int maneuvers = 0;
            for (int ship = 0; ship < ships; ship++) {
                if (isFloatingIn(fleet, ship)) {
                    for (int pulse = 0; pulse < PULSES; pulse++) {
                        maneuvers += Orders.letter(orders[ship], pulse) == AHEAD ? 0 : 1;
                    }
                }
            }
            return maneuvers;
        }

        int growth(int ship, int heading) {
            return get(ship, SAIL) * windForce * FACTORS[angleOf(heading, windFrom)];
        }

        boolean isSeenBy(int fleet, int ship) {
            if (get(ship, FLEET) == fleet) {
                return true;
            }
            for (int own = 0; own < ships; own++) {
                if (isFloatingIn(fleet, own) && floats(ship) && areNear(own, ship)) {
                    return true;
                }
            }
            return false;
        }

        private boolean areNear(int one, int other) {
            return Math.abs(get(one, COLUMN) - get(other, COLUMN)) <= SIGHT
                && Math.abs(get(one, ROW) - get(other, ROW)) <= SIGHT;
        }

        int shiftNumber(int row, int what) {
            return shiftRows[row * SHIFT_NUMBERS + what];
        }

        int shiftOf(int turn) {
            for (int row = 0; row < shifts; row++) {
                if (shiftNumber(row, 0) == turn) {
                    return row;
                }
            }
            return NONE;
        }

        void shiftWind() {
            int row = shiftOf(turn);
            if (row != NONE) {
                windFrom = shiftNumber(row, 1);
                windForce = shiftNumber(row, 2);
            }
        }

        boolean hasSealed(int fleet) {
            return seals[fleet] != NONE;
        }

        boolean areAllSealed() {
            for (int fleet = 0; fleet < fleets; fleet++) {
                if (!hasSealed(fleet) && shipsOf(fleet) != 0) {
                    return false;
                }
            }
            return true;
        }

        boolean isLogged(int turn) {
            return turn >= 0 && turn >= this.turn - LOG_TURNS && turn < this.turn;
        }

        /** The letters of a ship in the turn at hand or one in the log; 0 if it was sunk then. */
        int ordersIn(int turn, int ship) {
            if (isLogged(turn)) {
                return loggedOrders[turn % LOG_TURNS * MAX_SHIPS + ship];
            }
            return floats(ship) ? orders[ship] : 0;
        }

        int sealIn(int turn, int fleet) {
            return isLogged(turn) ? loggedSeals[turn % LOG_TURNS * MAX_FLEETS + fleet] : seals[fleet];
        }

        int sealBy(int turn, int fleet, int key) {
            int sum = key;
            for (int ship = 0; ship < ships; ship++) {
                int letters = ordersIn(turn, ship);
                if (letters != 0 && get(ship, FLEET) == fleet) {
                    for (int pulse = 0; pulse < PULSES; pulse++) {
                        sum = (31 * sum + Orders.letter(letters, pulse)) % 1000003;
                    }
                }
            }
            return sum;
        }

        /** Logs the turn at hand as it begins, since ships that sink in it have letters, too. */
        void logTurn() {
            int place = Math.max(0, turn) % LOG_TURNS;
            for (int ship = 0; ship < ships; ship++) {
                loggedOrders[place * MAX_SHIPS + ship] = floats(ship) ? orders[ship] : 0;
            }
            for (int fleet = 0; fleet < fleets; fleet++) {
                loggedSeals[place * MAX_FLEETS + fleet] = seals[fleet];
            }
        }

        void keepRam(int pulse, int lower, int other, int lowerLost, int otherLost) {
            if (rams >= MAX_RAMS) {
                return;
            }
            int first = rams * RAM_NUMBERS;
            ramRows[first] = pulse;
            ramRows[first + 1] = lower;
            ramRows[first + 2] = other;
            ramRows[first + 3] = lowerLost;
            ramRows[first + 4] = otherLost;
            rams++;
        }
    }

    /** Carries out the pulses of a turn on a sheet. */
    private static final class Turn {
        private static final int[] COLUMN_STEPS = {0, 1, 1, 1, 0, -1, -1, -1};
        private static final int[] ROW_STEPS = {-1, -1, 0, 1, 1, 1, 0, -1};
        private static final int[] HURTS = {1, 1, 3, 2, 2};
        private static final int MAX_WAY = 180;
        private static final int CELL_WAY = 90;

        final boolean[] going = new boolean[MAX_SHIPS];
        // The cells of the ships, NONE for a sunk one, and those to which they are going.
        final int[] cells = new int[MAX_SHIPS];
        final int[] goals = new int[MAX_SHIPS];
        // The fleets that struck each ship in this pulse, as sets of bits.
        final int[] strikers = new int[MAX_SHIPS];
        final int[] cellsGone = new int[MAX_SHIPS];
        final int[] firstRams = new int[MAX_SHIPS * MAX_SHIPS];
        int rams;

        void carryOut(Sheet sheet, int pulses) {
            Arrays.fill(cellsGone, 0);
            Arrays.fill(firstRams, NONE);
            rams = 0;
            sheet.rams = 0;
            for (int pulse = 0; pulse < pulses; pulse++) {
                steerAll(sheet, pulse);
                ramAll(sheet, pulse);
                goAll(sheet);
                sinkAll(sheet);
            }
        }

        private void steerAll(Sheet sheet, int pulse) {
            for (int ship = 0; ship < sheet.ships; ship++) {
                going[ship] = false;
                strikers[ship] = 0;
                cells[ship] = NONE;
                if (sheet.floats(ship)) {
                    cells[ship] = cellOf(sheet.get(ship, COLUMN), sheet.get(ship, ROW));
                    int letter = Orders.letter(sheet.orders[ship], pulse);
                    turnShip(sheet, ship, letter);
                    gatherWay(sheet, ship, letter);
                }
            }
        }

        private void turnShip(Sheet sheet, int ship, int letter) {
            int since = Math.min(4, sheet.get(ship, SINCE) + 1);
            boolean turns = (letter == LEFT || letter == RIGHT) && since > sheet.get(ship, STIFFNESS);
            if (turns) {
                int eighth = letter == LEFT ? -1 : 1;
                sheet.set(ship, HEADING, (sheet.get(ship, HEADING) + eighth) & 7);
            }
            sheet.set(ship, SINCE, turns ? 0 : since);
        }

        private void gatherWay(Sheet sheet, int ship, int letter) {
            if (letter == HEAVE) {
                return;
            }
            int heading = sheet.get(ship, HEADING) & 7;
            int way = Math.min(MAX_WAY, sheet.get(ship, WAY) + sheet.growth(ship, heading));
            if (way >= CELL_WAY) {
                int column = sheet.get(ship, COLUMN) + COLUMN_STEPS[heading];
                int row = sheet.get(ship, ROW) + ROW_STEPS[heading];
                going[ship] = sheet.hasCell(column, row);
                goals[ship] = cellOf(column, row);
                way = going[ship] ? way : 0;
            }
            sheet.set(ship, WAY, way);
        }

        private void ramAll(Sheet sheet, int pulse) {
            // Each ram stops a ship that was going: there are no more rams than ships.
            for (int n = 0; n < MAX_SHIPS; n++) {
                int pair = firstClash(sheet);
                if (pair == NONE) {
                    return;
                }
                collide(sheet, pulse, pair / MAX_SHIPS, pair % MAX_SHIPS);
            }
        }

        private int firstClash(Sheet sheet) {
            for (int lower = 0; lower < sheet.ships; lower++) {
                for (int other = lower + 1; other < sheet.ships; other++) {
                    if (doClash(lower, other)) {
                        return lower * MAX_SHIPS + other;
                    }
                }
            }
            return NONE;
        }

        private boolean doClash(int one, int other) {
            boolean atOther = going[one] && goals[one] == cells[other];
            boolean atOne = going[other] && goals[other] == cells[one];
            if (going[one] && going[other]) {
                return goals[one] == goals[other] || (atOther && atOne);
            }
            return atOther || atOne;
        }

        private void collide(Sheet sheet, int pulse, int lower, int other) {
            int lowerLost = lossOf(sheet, lower, other);
            int otherLost = lossOf(sheet, other, lower);
            noteStriker(sheet, lower, other);
            noteStriker(sheet, other, lower);
            hurt(sheet, lower, lowerLost);
            hurt(sheet, other, otherLost);
            boolean haveOneGoal = going[lower] && going[other] && goals[lower] == goals[other];
            boolean isLowerFirst = sheet.get(lower, MASS) >= sheet.get(other, MASS);
            going[lower] = haveOneGoal && isLowerFirst;
            going[other] = haveOneGoal && !isLowerFirst;
            noteRam(sheet, pulse, lower, other);
            sheet.keepRam(pulse, lower, other, lowerLost, otherLost);
        }

        /** What a ship loses in a ram with another one: by its strike and by the strike of the other. */
        private int lossOf(Sheet sheet, int ship, int other) {
            int otherMass = sheet.get(other, MASS);
            int loss = 0;
            if (going[other]) {
                loss += otherMass * HURTS[angleOf(sheet.get(ship, HEADING), sheet.get(other, HEADING))];
            }
            if (going[ship]) {
                loss += otherMass / 2;
            }
            return loss;
        }

        private void noteStriker(Sheet sheet, int ship, int struck) {
            if (going[ship]) {
                strikers[struck] |= 1 << sheet.get(ship, FLEET);
            }
        }

        private void hurt(Sheet sheet, int ship, int loss) {
            sheet.set(ship, HULL, sheet.get(ship, HULL) - loss);
            sheet.set(ship, WAY, 0);
        }

        private void noteRam(Sheet sheet, int pulse, int lower, int other) {
            rams++;
            if (firstRams[lower * MAX_SHIPS + other] == NONE) {
                firstRams[lower * MAX_SHIPS + other] = pulse;
                firstRams[other * MAX_SHIPS + lower] = pulse;
            }
        }

        private void goAll(Sheet sheet) {
            for (int ship = 0; ship < sheet.ships; ship++) {
                if (going[ship]) {
                    sheet.set(ship, COLUMN, goals[ship] / 100);
                    sheet.set(ship, ROW, goals[ship] % 100);
                    sheet.set(ship, WAY, Math.max(0, sheet.get(ship, WAY) - CELL_WAY));
                    cellsGone[ship]++;
                }
            }
        }

        private void sinkAll(Sheet sheet) {
            for (int ship = 0; ship < sheet.ships; ship++) {
                if (sheet.floats(ship) && sheet.get(ship, HULL) <= 0) {
                    sheet.set(ship, HULL, 0);
                    sheet.set(ship, SANK, sheet.turn);
                    sheet.takeOff(ship);
                    givePoints(sheet, ship);
                }
            }
        }

        private void givePoints(Sheet sheet, int ship) {
            for (int fleet = 0; fleet < sheet.fleets; fleet++) {
                boolean struckIt = ((strikers[ship] >> fleet) & 1) != 0;
                if (struckIt && fleet != sheet.get(ship, FLEET)) {
                    sheet.points[fleet] += sheet.get(ship, MASS);
                }
            }
        }
    }

    /** Rows for sheets, made once and written again and again. */
    private static final class Shelf {
        private final Sheet[] sheets;

        Shelf(int size) {
            sheets = new Sheet[Math.max(0, size)];
            for (int i = 0; i < sheets.length; i++) {
                sheets[i] = new Sheet();
            }
        }

        void put(int place, Sheet from) {
            Sheet to = sheetAt(place);
            if (to != null) {
                to.copyFrom(from);
            }
        }

        void take(int place, Sheet to) {
            Sheet from = sheetAt(place);
            if (from != null) {
                to.copyFrom(from);
            }
        }

        private Sheet sheetAt(int place) {
            return place >= 0 && place < sheets.length ? sheets[place] : null;
        }
    }

    /** The sheets as they were before the latest changes, on a shelf that is used as a ring. */
    private static final class History {
        private final Shelf past = new Shelf(MAX_UNDO);
        private int next;
        int kept;

        void keep(Sheet sheet) {
            past.put(next, sheet);
            next = (next + 1) % MAX_UNDO;
            kept = Math.min(MAX_UNDO, kept + 1);
        }

        void bringBack(Sheet sheet) {
            next = (next + MAX_UNDO - 1) % MAX_UNDO;
            past.take(next, sheet);
            kept--;
        }
    }

    /** The text buffer and the tokens that are read from it. */
    private static final class Text {
        // Numbers above this one are out of every range and need not be told apart.
        private static final int TOO_GREAT = 100000;

        private final int[] bytes = new int[MAX_TEXT];
        int length;
        int error;
        int errorAt = NONE;
        // The latest token: its first byte, the byte behind it, and what it says.
        int start;
        int end;
        int value;
        long name;

        void addBytes(int four) {
            for (int shift = 24; shift >= 0; shift -= 8) {
                int one = (four >> shift) & 255;
                if (one != 0 && length < MAX_TEXT) {
                    bytes[length] = one;
                    length++;
                }
            }
        }

        void begin() {
            start = 0;
            end = 0;
            error = 0;
            errorAt = NONE;
        }

        boolean fail(int code, int position) {
            error = code;
            errorAt = position;
            return false;
        }

        /** An error at the first byte of the latest token. */
        boolean failHere(int code) {
            error = code;
            errorAt = start;
            return false;
        }

        int byteAt(int position) {
            return position >= 0 && position < length && position < MAX_TEXT ? bytes[position] : 0;
        }

        private void skipSpaces() {
            start = end;
            while (start < length && bytes[start] == ' ') {
                start++;
            }
            end = start;
        }

        /** Takes the word that comes next; an empty one if something else comes. */
        void nextWord() {
            skipSpaces();
            while (end < length && bytes[end] >= 'a' && bytes[end] <= 'z') {
                end++;
            }
        }

        boolean isEmpty() {
            return end == start;
        }

        boolean isAtEnd() {
            return start >= length;
        }

        boolean isWord(String word) {
            if (end - start != word.length()) {
                return false;
            }
            for (int i = 0; i < word.length() && start + i < length; i++) {
                if (bytes[start + i] != word.charAt(i)) {
                    return false;
                }
            }
            return true;
        }

        boolean takeWord(String word) {
            nextWord();
            return isWord(word) || failHere(SYNTAX_ERROR);
        }

        boolean takeName() {
            nextWord();
            return isName() || failHere(SYNTAX_ERROR);
        }

        /** Whether the latest word is a name; it is kept as one number then, five bits a letter. */
        private boolean isName() {
            if (isEmpty() || end - start > MAX_NAME) {
                return false;
            }
            name = 0;
            for (int i = start; i < end; i++) {
                name = name * 32 + byteAt(i) - 'a' + 1;
            }
            return true;
        }

        boolean nameHere() {
            return isName() || failHere(SYNTAX_ERROR);
        }

        boolean takeNumber(int least, int most) {
            skipSpaces();
            value = 0;
            while (end < length && bytes[end] >= '0' && bytes[end] <= '9') {
                value = Math.min(TOO_GREAT, value * 10 + bytes[end] - '0');
                end++;
            }
            if (isEmpty()) {
                return failHere(SYNTAX_ERROR);
            }
            return (value >= least && value <= most) || failHere(VALUE_ERROR);
        }

        boolean takeSemicolon() {
            skipSpaces();
            if (byteAt(start) != ';') {
                return failHere(SYNTAX_ERROR);
            }
            end = start + 1;
            return true;
        }
    }

    /** Reads sheets and orders; each part ends with the next word taken, but not yet looked at. */
    private static final class Grammar {
        final Text text = new Text();
        private final long[] fleetNames = new long[MAX_FLEETS];
        // How many ships the latest orders named.
        int named;

        boolean readSheet(Sheet sheet) {
            text.begin();
            sheet.clear();
            return readSize(sheet) && readWind(sheet) && readShifts(sheet) && readFleets(sheet);
        }

        private boolean endPart() {
            if (!text.takeSemicolon()) {
                return false;
            }
            text.nextWord();
            return true;
        }

        private boolean readSize(Sheet sheet) {
            if (!text.takeWord("sheet") || !text.takeNumber(4, 30)) {
                return false;
            }
            sheet.columns = text.value;
            if (!text.takeNumber(4, 30)) {
                return false;
            }
            sheet.rows = text.value;
            return endPart();
        }

        private boolean readWind(Sheet sheet) {
            if (!text.isWord("wind")) {
                return true;
            }
            if (!text.takeNumber(0, 7)) {
                return false;
            }
            sheet.windFrom = text.value;
            if (!text.takeNumber(0, 9)) {
                return false;
            }
            sheet.windForce = text.value;
            return endPart();
        }

        private boolean readShifts(Sheet sheet) {
            for (int n = 0; n <= MAX_SHIFTS && text.isWord("shift"); n++) {
                if (sheet.shifts >= MAX_SHIFTS) {
                    return text.failHere(TOO_MANY);
                }
                if (!readShift(sheet)) {
                    return false;
                }
            }
            return true;
        }

        private boolean readShift(Sheet sheet) {
            if (!text.takeNumber(0, MAX_TURNS - 1)) {
                return false;
            }
            int turn = text.value;
            if (sheet.shiftOf(turn) != NONE) {
                return text.failHere(TWICE);
            }
            if (!text.takeNumber(0, 7)) {
                return false;
            }
            int direction = text.value;
            if (!text.takeNumber(0, 9)) {
                return false;
            }
            int first = sheet.shifts * SHIFT_NUMBERS;
            sheet.shiftRows[first] = turn;
            sheet.shiftRows[first + 1] = direction;
            sheet.shiftRows[first + 2] = text.value;
            sheet.shifts++;
            return endPart();
        }

        private boolean readFleets(Sheet sheet) {
            for (int n = 0; n <= MAX_FLEETS + MAX_SHIPS; n++) {
                if (text.isWord("fleet")) {
                    if (!readFleet(sheet)) {
                        return false;
                    }
                } else if (sheet.fleets > 0 && text.isWord("ship")) {
                    if (!readShip(sheet, sheet.ships)) {
                        return false;
                    }
                } else {
                    break;
                }
            }
            return (sheet.fleets > 0 && text.isAtEnd()) || text.failHere(SYNTAX_ERROR);
        }

        private boolean readFleet(Sheet sheet) {
            if (sheet.fleets >= MAX_FLEETS) {
                return text.failHere(TOO_MANY);
            }
            if (!text.takeName()) {
                return false;
            }
            for (int fleet = 0; fleet < sheet.fleets; fleet++) {
                if (fleetNames[fleet] == text.name) {
                    return text.failHere(TWICE);
                }
            }
            fleetNames[sheet.fleets] = text.name;
            sheet.fleets++;
            return endPart();
        }

        private boolean readShip(Sheet sheet, int ship) {
            if (ship >= MAX_SHIPS) {
                return text.failHere(TOO_MANY);
            }
            if (!text.takeName()) {
                return false;
            }
            if (sheet.shipNamed(text.name) != NONE) {
                return text.failHere(TWICE);
            }
            sheet.setShip(ship, sheet.fleets - 1, text.name);
            if (!readPlace(sheet, ship) || !readOptions(sheet, ship) || !endPart()) {
                return false;
            }
            sheet.ships++;
            return true;
        }

        private boolean readPlace(Sheet sheet, int ship) {
            if (!text.takeNumber(0, sheet.columns - 1)) {
                return false;
            }
            int column = text.value;
            if (!text.takeNumber(0, sheet.rows - 1)) {
                return false;
            }
            int row = text.value;
            if (!text.takeNumber(0, 7)) {
                return false;
            }
            if (sheet.shipIn(column, row) != NONE) {
                return text.failHere(MISFIT);
            }
            sheet.set(ship, COLUMN, column);
            sheet.set(ship, ROW, row);
            sheet.set(ship, HEADING, text.value);
            return true;
        }

        private boolean readOptions(Sheet sheet, int ship) {
            int told = 0;
            text.nextWord();
            for (int n = 0; n <= SHIP_NUMBERS && !text.isEmpty(); n++) {
                int what = optionHere();
                if (what == NONE) {
                    return text.failHere(SYNTAX_ERROR);
                }
                if (((told >> what) & 1) != 0) {
                    return text.failHere(TWICE);
                }
                told |= 1 << what;
                if (!text.takeNumber(what == STIFFNESS ? 0 : 1, mostOf(what))) {
                    return false;
                }
                sheet.set(ship, what, text.value);
                text.nextWord();
            }
            return true;
        }

        private int optionHere() {
            if (text.isWord("hull")) {
                return HULL;
            }
            if (text.isWord("mass")) {
                return MASS;
            }
            if (text.isWord("sail")) {
                return SAIL;
            }
            return text.isWord("stiff") ? STIFFNESS : NONE;
        }

        private static int mostOf(int what) {
            if (what == HULL) {
                return 99;
            }
            return what == STIFFNESS ? 3 : 9;
        }

        boolean readOrders(Sheet sheet, int fleet) {
            text.begin();
            text.nextWord();
            clearOrders(sheet, fleet);
            int told = 0;
            named = 0;
            for (int n = 0; n <= MAX_SHIPS && !text.isAtEnd(); n++) {
                int ship = readNamed(sheet, fleet, told);
                if (ship == NONE || !readLetters(sheet, ship) || !endPart()) {
                    return false;
                }
                told |= 1 << ship;
                named++;
            }
            return true;
        }

        private static void clearOrders(Sheet sheet, int fleet) {
            for (int ship = 0; ship < sheet.ships; ship++) {
                if (sheet.get(ship, FLEET) == fleet) {
                    sheet.orders[ship] = Orders.ALL_AHEAD;
                }
            }
        }

        /** The ship that the latest word names; NONE if that is an error. */
        private int readNamed(Sheet sheet, int fleet, int told) {
            if (!text.nameHere()) {
                return NONE;
            }
            int ship = sheet.shipNamed(text.name);
            if (ship == NONE || !sheet.isFloatingIn(fleet, ship)) {
                text.failHere(UNKNOWN);
                return NONE;
            }
            if (((told >> ship) & 1) != 0) {
                text.failHere(TWICE);
                return NONE;
            }
            return ship;
        }

        private boolean readLetters(Sheet sheet, int ship) {
            text.nextWord();
            if (text.isEmpty()) {
                return text.failHere(SYNTAX_ERROR);
            }
            for (int i = text.start; i < text.end; i++) {
                int letter = letterOf(text.byteAt(i));
                int pulse = i - text.start;
                if (letter == NONE || pulse >= PULSES) {
                    return text.fail(VALUE_ERROR, i);
                }
                sheet.orders[ship] = Orders.with(sheet.orders[ship], pulse, letter);
            }
            return true;
        }

        private static int letterOf(int sign) {
            switch (sign) {
                case 'a': return AHEAD;
                case 'l': return LEFT;
                case 'r': return RIGHT;
                case 'h': return HEAVE;
                default: return NONE;
            }
        }
    }

    /** The text that was written last. */
    private static final class Written {
        // Twelve ships of at most 20 bytes, the space ahead of each one counted.
        final int[] bytes = new int[MAX_SHIPS * 20];
        int length;

        void addShip(Sheet sheet, int ship) {
            if (length > 0) {
                addByte(' ');
            }
            addName(sheet.names[ship]);
            addByte('=');
            addNumber(sheet.get(ship, COLUMN));
            addByte(',');
            addNumber(sheet.get(ship, ROW));
            addHeading(sheet.get(ship, HEADING));
            addByte('/');
            addNumber(sheet.get(ship, HULL));
        }

        private void addByte(int one) {
            if (length < bytes.length) {
                bytes[length] = one;
                length++;
            }
        }

        private void addName(long name) {
            for (int i = MAX_NAME - 1; i >= 0; i--) {
                int letter = (int) (name >> (5 * i)) & 31;
                if (letter != 0) {
                    addByte('a' + letter - 1);
                }
            }
        }

        /** A number of at most two digits. */
        private void addNumber(int number) {
            if (number >= 10) {
                addByte('0' + number / 10);
            }
            addByte('0' + number % 10);
        }

        private void addHeading(int heading) {
            boolean isNorthern = heading == 7 || heading <= 1;
            boolean isSouthern = heading >= 3 && heading <= 5;
            if (isNorthern || isSouthern) {
                addByte(isNorthern ? 'N' : 'S');
            }
            if (heading % 4 != 0) {
                addByte(heading < 4 ? 'E' : 'W');
            }
        }
    }
}
