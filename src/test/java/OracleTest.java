import java.util.ArrayList;
import java.util.List;

/** Long runs of calls, each answer compared with that of the second telling. */
public final class OracleTest {
    private static final int RUNS = 1500;
    private static final int CALLS = 512;

    private long seed;
    private FleetSheet sheet;
    private Oracle oracle;
    private List<String> calls;
    private int made;
    private boolean isWrong;
    // A text that is meant to be right: most are, or the sheets would stay empty.
    private boolean isClean;

    public static void main(String[] args) {
        int wrong = 0;
        int first = args.length > 0 ? Integer.parseInt(args[0]) : 1;
        int runs = args.length > 1 ? Integer.parseInt(args[1]) : RUNS;
        for (int run = first; run < first + runs; run++) {
            if (new OracleTest().differs(run)) {
                wrong++;
            }
        }
        System.out.println(runs + " runs, " + wrong + " with an answer that is not the second telling's");
        if (wrong != 0) {
            System.exit(1);
        }
    }

    private interface Call {
        Object answer();
    }

    private boolean differs(int run) {
        seed = run * 7919L + 17;
        sheet = new FleetSheet();
        oracle = new Oracle();
        calls = new ArrayList<>();
        while (made < CALLS && !isWrong) {
            step();
        }
        if (isWrong) {
            System.out.println("run " + run + ":");
            for (String call : calls.subList(Math.max(0, calls.size() - 12), calls.size())) {
                System.out.println("  " + call);
            }
        }
        return isWrong;
    }

    private int random(int bound) {
        seed = seed * 6364136223846793005L + 1442695040888963407L;
        return (int) ((seed >>> 33) % bound);
    }

    private boolean chance(int percent) {
        return random(100) < percent;
    }

    /** A number around 0 to most, now and then a wild one. */
    private int about(int most) {
        if (chance(2)) {
            int[] wild = {Integer.MIN_VALUE, Integer.MAX_VALUE, -2, 1000, 999, 12, -1000000};
            return wild[random(wild.length)];
        }
        return chance(8) ? random(most + 3) - 1 : random(Math.max(1, most + 1));
    }

    private static Object answerOf(Call call) {
        try {
            return call.answer();
        } catch (RuntimeException e) {
            return e.getClass().getSimpleName();
        }
    }

    private void compare(String name, Call got, Call want) {
        if (made >= CALLS || isWrong) {
            return;
        }
        made++;
        Object g = answerOf(got);
        Object w = answerOf(want);
        calls.add(name + " -> " + g);
        if (!g.equals(w)) {
            isWrong = true;
            calls.add("due is " + w);
        }
    }

    private void feed(String text) {
        for (int i = 0; i < text.length(); i += 20) {
            int[] f = new int[5];
            for (int k = 0; k < 20; k++) {
                int one = i + k < text.length() ? text.charAt(i + k) & 255 : 0;
                f[k / 4] |= one << (24 - 8 * (k % 4));
            }
            String part = text.substring(i, Math.min(text.length(), i + 20));
            compare("append \"" + part + "\"", () -> sheet.append(f[0], f[1], f[2], f[3], f[4]),
                () -> oracle.append(f[0], f[1], f[2], f[3], f[4]));
        }
    }

    // ---- texts

    private String space() {
        return chance(10) ? "  " : chance(10) ? " " : "";
    }

    private boolean slip() {
        return !isClean && chance(1);
    }

    private String number(int least, int most) {
        int n = slip() ? (chance(50) ? most + 1 : least - 1) : least + random(most - least + 1);
        String digits = n < 0 ? "-1" : "" + n;
        return chance(2) ? "000" + digits : slip() && chance(30) ? "4294967296" + digits : digits;
    }

    private String name(int k) {
        String[] names = {"a", "ship", "hull", "fleet", "abcdefgh", "bee", "zz", "stiff", "wind", "q", "azazazaz", "za", "m", "n"};
        if (slip() && chance(30)) {
            return "abcdefghi";
        }
        return names[(slip() ? random(names.length) : k) % names.length];
    }

    private String sheetText() {
        int columns = chance(70) ? 4 + random(5) : 4 + random(27);
        int rows = chance(70) ? 4 + random(5) : 4 + random(27);
        StringBuilder t = new StringBuilder(space() + "sheet " + columns + " " + rows + space() + ";");
        if (chance(70)) {
            t.append(space()).append("wind ").append(number(0, 7)).append(' ').append(number(3, 9)).append(";");
        }
        int shifts = chance(50) ? 0 : chance(95) ? random(4) : random(isClean ? 9 : 11);
        for (int k = 0; k < shifts; k++) {
            t.append("shift ").append(isClean || chance(90) ? "" + k : number(0, 999)).append(' ').append(number(0, 7)).append(' ').append(number(0, 9)).append(space()).append(';');
        }
        int fleets = isClean || chance(97) ? 1 + random(4) : random(6);
        int ship = 0;
        int cells = columns * rows;
        int cell = random(cells);
        for (int f = 0; f < fleets; f++) {
            t.append(space()).append("fleet ").append(name(f)).append(";");
            int ships = chance(90) ? 1 + random(4) : random(13);
            for (int k = 0; k < ships && (ship < 12 || !isClean && chance(3)) && t.length() < 575; k++) {
                cell = (cell + 1 + random(Math.max(1, cells / 13 - 1))) % cells;
                String column = isClean ? "" + cell % columns : number(0, columns - 1);
                String row = isClean ? "" + cell / columns : number(0, rows - 1);
                t.append("ship ").append(name(ship)).append(' ').append(column).append(' ').append(row).append(' ').append(number(0, 7)).append(options()).append(space()).append(';');
                ship++;
            }
        }
        return spoil(t.append(space()));
    }

    private String options() {
        StringBuilder t = new StringBuilder();
        String[] words = {"hull", "mass", "sail", "stiff"};
        int[] most = {chance(50) ? 20 : 99, 9, 9, 3};
        for (int k = 0; k < 4; k++) {
            if (chance(40)) {
                int what = slip() ? random(4) : k;
                t.append(' ').append(words[what]).append(space()).append(number(what == 3 ? 0 : 1, most[what]));
            }
        }
        return t.toString();
    }

    private String spoil(StringBuilder t) {
        if (!isClean && chance(25) && t.length() > 0) {
            int at = random(t.length());
            switch (random(4)) {
                case 0: t.deleteCharAt(at); break;
                case 1: t.insert(at, (char) (1 + random(255))); break;
                case 2: t.setLength(at); break;
                default: t.setCharAt(at, "a1 ;z{/:`A9l".charAt(random(12))); break;
            }
        }
        return t.toString();
    }

    private String orderText(int fleet) {
        StringBuilder t = new StringBuilder();
        int named = random(6);
        int ships = Math.max(1, sheet.count(3));
        int first = random(ships);
        isClean = chance(70);
        for (int k = 0; k < named; k++) {
            int ship = (first + k) % ships;
            if (sheet.count(3) > 0 && sheet.ship(ship, 0) != fleet && (isClean || chance(90))) {
                continue;
            }
            t.append(space()).append(name(ship)).append(' ');
            int letters = isClean || chance(90) ? 1 + random(6) : random(9);
            for (int i = 0; i < letters; i++) {
                t.append(slip() ? 'b' : "aaalrlrh".charAt(random(8)));
            }
            t.append(space()).append(';');
        }
        return spoil(t);
    }

    // ---- calls

    private void step() {
        int dice = random(100);
        if (made == 0 || dice < 2 || sheet.count(9) < 2 && chance(15)) {
            loadOne();
        } else if (dice < 18) {
            int f = about(sheet.count(2) - 1);
            if (chance(80)) {
                feed(orderText(f));
            }
            compare("write " + f, () -> sheet.write(f), () -> oracle.write(f));
            compare("errorPosition", () -> sheet.errorPosition(), () -> oracle.errorPosition());
        } else if (dice < 40) {
            sealSome();
            compare("run", () -> sheet.run(), () -> oracle.run());
        } else if (dice < 50) {
            change();
        } else {
            ask(random(24));
        }
    }

    private void loadOne() {
        if (made == 0 || chance(80)) {
            isClean = chance(70);
            feed(sheetText());
        }
        compare("load", () -> sheet.load(), () -> oracle.load());
        if (chance(20)) {
            everything();
        }
        compare("errorPosition", () -> sheet.errorPosition(), () -> oracle.errorPosition());
    }

    private static int keyOf(int turn, int fleet) {
        return 1000 + 4 * turn + fleet;
    }

    private void sealSome() {
        for (int f = 0; f < sheet.count(2); f++) {
            int fleet = f;
            int key = chance(5) ? 999990 + random(12) : keyOf(sheet.count(4), fleet);
            if (chance(95)) {
                compare("seal " + fleet + " " + key, () -> sheet.seal(fleet, key), () -> oracle.seal(fleet, key));
            }
        }
    }

    private void change() {
        int a = about(7);
        int b = about(9);
        int slot = about(1);
        switch (random(5)) {
            case 0:
                compare("setWind " + a + " " + b, () -> sheet.setWind(a, b), () -> oracle.setWind(a, b));
                break;
            case 1:
                compare("save " + slot, () -> { sheet.save(slot); return 0; }, () -> oracle.save(slot));
                break;
            case 2:
                compare("restore " + slot, () -> sheet.restore(slot), () -> oracle.restore(slot));
                everything();
                break;
            case 3:
                for (int n = chance(20) ? 9 : random(3); n >= 0; n--) {
                    compare("undo", () -> sheet.undo(), () -> oracle.undo());
                }
                everything();
                break;
            default:
                compare("append " + a, () -> sheet.append(a << 24, b, 0, 0, slot), () -> oracle.append(a << 24, b, 0, 0, slot));
                break;
        }
    }

    private void ask(int kind) {
        int ship = about(sheet.count(3) - 1);
        int other = about(sheet.count(3) - 1);
        int fleet = about(sheet.count(2) - 1);
        int pulse = about(5);
        int what = about(10);
        int turn = sheet.count(4) - random(12);
        int key = chance(50) ? about(2000) : keyOf(turn, fleet);
        String tail = " of " + ship + ", " + other + ", fleet " + fleet + ", pulse " + pulse + ", what " + what + ", turn " + turn + ", key " + key;
        switch (kind) {
            case 0: compare("count" + tail, () -> sheet.count(what), () -> oracle.count(what)); break;
            case 1: compare("ship" + tail, () -> sheet.ship(ship, what), () -> oracle.ship(ship, what)); break;
            case 2: compare("fleet" + tail, () -> sheet.fleet(fleet, pulse), () -> oracle.fleet(fleet, pulse)); break;
            case 3: compare("at" + tail, () -> sheet.at(what, key % 10), () -> oracle.at(what, key % 10)); break;
            case 4: compare("order" + tail, () -> sheet.order(ship, pulse), () -> oracle.order(ship, pulse)); break;
            case 5: compare("gain" + tail, () -> sheet.gain(ship, what), () -> oracle.gain(ship, what)); break;
            case 6: compare("sees" + tail, () -> sheet.sees(fleet, ship) ? 1 : 0, () -> oracle.sees(fleet, ship)); break;
            case 7: compare("shift" + tail, () -> sheet.shift(what, other), () -> oracle.shift(what, other)); break;
            case 8: compare("ram" + tail, () -> sheet.ram(ship, pulse), () -> oracle.ram(ship, pulse)); break;
            case 9: compare("sealOf" + tail, () -> sheet.sealOf(turn, fleet), () -> oracle.sealOf(turn, fleet)); break;
            case 10: compare("check" + tail, () -> sheet.check(turn, fleet, key) ? 1 : 0, () -> oracle.check(turn, fleet, key)); break;
            case 11: compare("logged" + tail, () -> sheet.logged(turn, ship, pulse), () -> oracle.logged(turn, ship, pulse)); break;
            case 12: case 13: compare("after" + tail, () -> sheet.after(ship, what), () -> oracle.after(ship, what)); break;
            case 14: case 15: compare("course" + tail, () -> sheet.course(ship, what), () -> oracle.course(ship, what)); break;
            case 16: case 17: compare("meet" + tail, () -> sheet.meet(ship, other), () -> oracle.meet(ship, other)); break;
            case 18: case 19: compare("spares" + tail, () -> sheet.spares(ship, pulse), () -> oracle.spares(ship, pulse)); break;
            case 20: compare("bestWind" + tail, () -> sheet.bestWind(fleet), () -> oracle.bestWind(fleet)); break;
            case 21: compare("pace" + tail, () -> sheet.pace(fleet), () -> oracle.pace(fleet)); break;
            case 22: compare("writeShips", () -> sheet.writeShips(), () -> oracle.writeShips()); break;
            default: compare("writtenByte" + tail, () -> sheet.writtenByte(key % 250), () -> oracle.writtenByte(key % 250)); break;
        }
        if (kind >= 22) {
            everyShip();
        }
    }

    /** What a change that brings back much could have left behind. */
    private void everything() {
        everyShip();
        for (int f = 0; f < sheet.count(2); f++) {
            int fleet = f;
            compare("points of " + fleet, () -> sheet.fleet(fleet, 1), () -> oracle.fleet(fleet, 1));
            compare("letters of " + fleet, () -> sheet.fleet(fleet, 4), () -> oracle.fleet(fleet, 4));
        }
        for (int k = 0; k < 3 && sheet.count(8) > 0; k++) {
            int turn = sheet.count(4) - 1 - random(sheet.count(8));
            int ship = random(1 + sheet.count(3));
            int pulse = random(6);
            int fleet = random(sheet.count(2));
            compare("logged " + turn + " " + ship + " " + pulse, () -> sheet.logged(turn, ship, pulse), () -> oracle.logged(turn, ship, pulse));
            compare("sealOf " + turn + " " + fleet, () -> sheet.sealOf(turn, fleet), () -> oracle.sealOf(turn, fleet));
        }
    }

    private void everyShip() {
        for (int s = 0; s < sheet.count(3); s++) {
            int ship = s;
            int what = random(11);
            compare("ship " + ship + " " + what, () -> sheet.ship(ship, what), () -> oracle.ship(ship, what));
        }
        for (int r = 0; r < sheet.count(7) && chance(60); r++) {
            int ram = sheet.count(7) - 1 - r;
            int what = random(5);
            compare("ram " + ram + " " + what, () -> sheet.ram(ram, what), () -> oracle.ram(ram, what));
        }
    }
}
