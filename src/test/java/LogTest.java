/** Promises 14 to 16: sealOf, check, logged; with what seal answers. */
public final class LogTest {
    private static final String TEXT = "sheet 12 12;fleet a;ship x 2 5 4;ship w 11 11 0;fleet b;ship y 2 8 0 mass 5 hull 9;fleet c;";

    public static void main(String[] args) {
        sealOf();
        check();
        logged();
        tenTurns();
        Sheets.finish();
    }

    private static int sealBy(int key, String letters) {
        long s = key;
        for (int i = 0; i < letters.length(); i++) {
            s = (31 * s + "alrh".indexOf(letters.charAt(i)) + 1) % 1000003;
        }
        return (int) s;
    }

    private static void sealOf() {
        FleetSheet x = Sheets.of(TEXT);
        Sheets.write(x, 0, "w rh;");
        Sheets.due("14 not sealed", x.sealOf(0, 0), FleetSheet.NONE);
        int seal = sealBy(999999, "aaaaaarhaaaa");
        Sheets.due("24 the seal", x.seal(0, 999999), seal);
        Sheets.due("14 at hand", x.sealOf(0, 0), seal);
        Sheets.due("14 of another fleet", x.sealOf(0, 1), FleetSheet.NONE);
        Sheets.due("24 without ships", x.seal(2, 55), 55);
        Sheets.due("14 without ships", x.sealOf(0, 2), 55);
        x.seal(1, 0);
        x.run();
        Sheets.due("14 in the log", x.sealOf(0, 0), seal);
        Sheets.due("14 in the log without ships", x.sealOf(0, 2), 55);
        Sheets.due("14 the turn at hand", x.sealOf(1, 0), FleetSheet.NONE);
        Sheets.dueIndex("14 turn 2", () -> x.sealOf(2, 0));
        Sheets.dueIndex("14 turn -1", () -> x.sealOf(-1, 0));
        Sheets.dueIndex("14 fleet 3", () -> x.sealOf(0, 3));
        Sheets.dueIndex("14 fleet -1", () -> x.sealOf(1, -1));
        x.seal(0, 1);
        x.run();
        Sheets.due("14 one that did not seal", x.sealOf(1, 1), FleetSheet.NONE);
        Sheets.due("24 without its sunk ships", x.seal(1, 77), 77);
    }

    private static void check() {
        FleetSheet x = Sheets.of(TEXT);
        Sheets.write(x, 0, "w rh;");
        x.seal(0, 4711);
        Sheets.dueIndex("15 the turn at hand", () -> x.check(0, 0, 4711));
        x.seal(1, 0);
        x.run();
        Sheets.due("15 right", x.check(0, 0, 4711), true);
        Sheets.due("15 wrong", x.check(0, 0, 4712), false);
        Sheets.due("15 key 0", x.check(0, 1, 0), true);
        Sheets.due("15 a key too great", x.check(0, 1, 1000003), false);
        Sheets.due("15 a key below 0", x.check(0, 1, -1000003), false);
        Sheets.due("15 not sealed", x.check(0, 2, 0), false);
        Sheets.due("15 not sealed, key of NONE", x.check(0, 2, -1), false);
        Sheets.dueIndex("15 turn 1", () -> x.check(1, 0, 4711));
        Sheets.dueIndex("15 turn -1", () -> x.check(-1, 0, 4711));
        Sheets.dueIndex("15 fleet 3", () -> x.check(0, 3, 0));
        Sheets.dueIndex("15 fleet -1", () -> x.check(0, -1, 0));
        x.seal(0, 999999);
        x.seal(1, 1000);
        x.seal(2, 1000);
        x.run();
        Sheets.due("15 greatest key", x.check(1, 0, 999999), true);
        Sheets.due("15 a ship that sinks in a turn has letters in it", x.check(0, 1, 0), true);
        Sheets.due("15 a fleet without ships", x.check(1, 2, 1000), true);
        Sheets.due("15 of the turn, not the latest", x.check(0, 0, 4711), true);
    }

    private static void logged() {
        FleetSheet x = Sheets.of("sheet 12 12;fleet a;ship x 2 5 4;ship w 11 11 0;fleet b;ship y 2 8 0 mass 5 hull 9;");
        Sheets.write(x, 0, "w rhal;");
        Sheets.write(x, 1, "y aaaaah;");
        Sheets.dueIndex("16 the turn at hand", () -> x.logged(0, 0, 0));
        Sheets.sealAllAndRun(x);
        Sheets.due("y is sunk", x.ship(2, 4), 0);
        int[] want = {3, 4, 1, 2, 1, 1};
        for (int pulse = 0; pulse < 6; pulse++) {
            Sheets.due("16 pulse " + pulse, x.logged(0, 1, pulse), want[pulse]);
            Sheets.due("16 of x, pulse " + pulse, x.logged(0, 0, pulse), 1);
            Sheets.due("16 of y, which sank, pulse " + pulse, x.logged(0, 2, pulse), pulse == 5 ? 4 : 1);
        }
        Sheets.sealAllAndRun(x);
        Sheets.due("16 sunk when the turn began", x.logged(1, 2, 0), 0);
        Sheets.due("16 sunk when the turn began", x.logged(1, 2, 5), 0);
        Sheets.due("16 the first turn stays", x.logged(0, 1, 0), 3);
        Sheets.due("9 of a sunk ship", x.order(2, 0), 1);
        Sheets.dueIndex("16 turn -1", () -> x.logged(-1, 0, 0));
        Sheets.dueIndex("16 turn 2", () -> x.logged(2, 0, 0));
        Sheets.dueIndex("16 ship 3", () -> x.logged(0, 3, 0));
        Sheets.dueIndex("16 ship -1", () -> x.logged(0, -1, 0));
        Sheets.dueIndex("16 pulse 6", () -> x.logged(0, 0, 6));
        Sheets.dueIndex("16 pulse -1", () -> x.logged(0, 0, -1));
    }

    private static void tenTurns() {
        for (int turns : new int[] {1, 2, 9, 10, 11, 12, 20, 21, 33}) {
            tenTurns(turns);
        }
    }

    private static void tenTurns(int turns) {
        FleetSheet x = Sheets.of("sheet 12 12;wind 0 0;fleet a;ship x 2 5 4;");
        String letters = "alrh";
        for (int turn = 0; turn < turns; turn++) {
            Sheets.write(x, 0, "x " + letters.charAt(turn % 4) + letters.charAt(turn / 4 % 4) + ";");
            x.seal(0, 100 + turn);
            x.run();
        }
        Sheets.due("5 turns in the log", x.count(8), Math.min(10, turns));
        int oldest = Math.max(0, turns - 10);
        Sheets.dueIndex("16 too old", () -> x.logged(oldest - 1, 0, 0));
        Sheets.dueIndex("14 too old", () -> x.sealOf(oldest - 1, 0));
        Sheets.dueIndex("15 too old", () -> x.check(oldest - 1, 0, 0));
        Sheets.dueIndex("16 at hand", () -> x.logged(turns, 0, 0));
        Sheets.dueIndex("15 at hand", () -> x.check(turns, 0, 0));
        Sheets.due("14 at hand", x.sealOf(turns, 0), FleetSheet.NONE);
        Sheets.dueIndex("14 behind that", () -> x.sealOf(turns + 1, 0));
        for (int t = oldest; t < turns; t++) {
            String told = "" + letters.charAt(t % 4) + letters.charAt(t / 4 % 4) + "aaaa";
            Sheets.due("16 turn " + t, x.logged(t, 0, 0), 1 + t % 4);
            Sheets.due("16 turn " + t, x.logged(t, 0, 1), 1 + t / 4 % 4);
            Sheets.due("14 turn " + t, x.sealOf(t, 0), sealBy(100 + t, told));
            Sheets.due("15 turn " + t, x.check(t, 0, 100 + t), true);
            Sheets.due("15 turn " + t + " by another key", x.check(t, 0, 101 + t), false);
        }
    }
}
