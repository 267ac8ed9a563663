import java.util.function.IntConsumer;

/** Term 6: each argument out of its range, which exception is first, and that nothing changes then. */
public final class RefusalTest {
    private static final Class<?> INDEX = IndexOutOfBoundsException.class;
    private static final Class<?> ARGUMENT = IllegalArgumentException.class;
    private static final Class<?> STATE = IllegalStateException.class;
    private static final int[] WILD = {Integer.MIN_VALUE, Integer.MIN_VALUE + 1, -1000003, -1000, -8, -2, -1, Integer.MAX_VALUE - 1,
        Integer.MAX_VALUE, 1 << 16, 1 << 30, 1000003};

    private static FleetSheet x;

    public static void main(String[] args) {
        setup();
        theLog();
        whatWouldBe();
        changes();
        texts();
        firstNamed();
        nothingChanges();
        errorsAreNoChanges();
        Sheets.finish();
    }

    /** Two fleets, three ships, one of them sunk; one turn and its two rams; then orders and a seal. */
    private static FleetSheet played() {
        FleetSheet y = Sheets.of("sheet 10 9;wind 0 5;shift 3 1 1;fleet a;ship x 2 5 4;fleet b;ship y 2 8 0 mass 5 hull 9;ship z 9 8 0;");
        Sheets.sealAllAndRun(y);
        Sheets.write(y, 0, "x lr;");
        y.seal(0, 4711);
        y.writeShips();
        return y;
    }

    /** The call is refused for wild numbers and from both ends on; a new object for each one. */
    private static void refused(String what, Class<?> want, int least, int most, IntConsumer call) {
        int[] ends = {least - 1, most + 1, most + 2};
        for (int[] numbers : new int[][] {ends, WILD}) {
            for (int number : numbers) {
                if (number < least || number > most) {
                    x = played();
                    Sheets.dueThrow(what + " " + number, want, () -> call.accept(number));
                }
            }
        }
    }

    /** The call is not refused anywhere in its range. */
    private static void taken(String what, int least, int most, IntConsumer call) {
        for (int number = least; number <= most; number++) {
            x = played();
            int n = number;
            String got = "nothing";
            try {
                call.accept(n);
            } catch (RuntimeException e) {
                got = e.getClass().getSimpleName();
            }
            Sheets.dueText(what + " " + number + " throws", got, "nothing");
        }
    }

    private static void both(String what, Class<?> want, int least, int most, IntConsumer call) {
        refused(what, want, least, most, call);
        taken(what, least, most, call);
    }

    private static void setup() {
        both("5 count", ARGUMENT, 0, 10, n -> x.count(n));
        both("6 ship", INDEX, 0, 2, n -> x.ship(n, 0));
        both("6 what", ARGUMENT, 0, 10, n -> x.ship(1, n));
        both("7 fleet", INDEX, 0, 1, n -> x.fleet(n, 0));
        both("7 what", ARGUMENT, 0, 4, n -> x.fleet(1, n));
        both("8 column", INDEX, 0, 9, n -> x.at(n, 8));
        both("8 row", INDEX, 0, 8, n -> x.at(9, n));
        both("9 ship", INDEX, 0, 2, n -> x.order(n, 5));
        both("9 pulse", INDEX, 0, 5, n -> x.order(2, n));
        both("10 ship", INDEX, 0, 2, n -> x.gain(n, 7));
        both("10 heading", ARGUMENT, 0, 7, n -> x.gain(2, n));
        both("11 fleet", INDEX, 0, 1, n -> x.sees(n, 2));
        both("11 ship", INDEX, 0, 2, n -> x.sees(1, n));
        both("12 turn", ARGUMENT, 0, 999, n -> x.shift(n, 1));
        both("12 what", ARGUMENT, 0, 1, n -> x.shift(3, n));
        both("12 what without a shift", ARGUMENT, 0, 1, n -> x.shift(999, n));
        both("13 ram", INDEX, 0, 1, n -> x.ram(n, 4));
        both("13 what", ARGUMENT, 0, 4, n -> x.ram(1, n));
    }

    private static void theLog() {
        both("14 turn", INDEX, 0, 1, n -> x.sealOf(n, 1));
        both("14 fleet", INDEX, 0, 1, n -> x.sealOf(0, n));
        both("14 fleet at hand", INDEX, 0, 1, n -> x.sealOf(1, n));
        both("15 turn", INDEX, 0, 0, n -> x.check(n, 1, 1));
        both("15 fleet", INDEX, 0, 1, n -> x.check(0, n, 1));
        for (int key : WILD) {
            x = played();
            Sheets.due("15 any key: " + key, x.check(0, 0, key), false);
        }
        both("16 turn", INDEX, 0, 0, n -> x.logged(n, 2, 5));
        both("16 ship", INDEX, 0, 2, n -> x.logged(0, n, 5));
        both("16 pulse", INDEX, 0, 5, n -> x.logged(0, 2, n));
    }

    private static void whatWouldBe() {
        both("17 ship", INDEX, 0, 2, n -> x.after(n, 10));
        both("17 what", ARGUMENT, 0, 10, n -> x.after(2, n));
        refused("18 ship", INDEX, 0, 2, n -> x.course(n, 6));
        taken("18 ship", 0, 0, n -> x.course(n, 6));
        refused("18 a sunk ship or none", INDEX, 2, 2, n -> x.course(n, 6));
        both("18 pulses", ARGUMENT, 0, 6, n -> x.course(2, n));
        both("19 ship", INDEX, 0, 2, n -> x.meet(n, 2));
        both("19 other", INDEX, 0, 2, n -> x.meet(2, n));
        both("20 ship", INDEX, 0, 2, n -> x.spares(n, 5));
        both("20 pulse", INDEX, 0, 5, n -> x.spares(2, n));
        both("21 fleet", INDEX, 0, 1, n -> x.bestWind(n));
        both("22 fleet", INDEX, 0, 1, n -> x.pace(n));
    }

    private static void changes() {
        refused("23 fleet", INDEX, 0, 1, n -> x.write(n));
        taken("23 fleet", 1, 1, n -> x.write(n));
        refused("24 fleet", INDEX, 0, 1, n -> x.seal(n, 0));
        taken("24 fleet", 1, 1, n -> x.seal(n, 0));
        refused("24 key", ARGUMENT, 0, 999999, n -> x.seal(1, n));
        taken("24 key", 999998, 999999, n -> x.seal(1, n));
        taken("24 key", 0, 1, n -> x.seal(1, n));
        both("26 direction", ARGUMENT, 0, 7, n -> x.setWind(n, 9));
        both("26 force", ARGUMENT, 0, 9, n -> x.setWind(7, n));
        both("28 slot", INDEX, 0, 1, n -> x.save(n));
        refused("29 slot", INDEX, 0, 1, n -> x.restore(n));
        for (int slot = 0; slot < 2; slot++) {
            FleetSheet y = played();
            int other = 1 - slot;
            y.save(slot);
            Sheets.due("29 saved in " + slot, y.restore(slot), 1);
            Sheets.dueState("29 nothing in " + other, () -> y.restore(other));
        }
    }

    private static void texts() {
        int length = played().writeShips();
        both("31 index", INDEX, 0, length - 1, n -> x.writtenByte(n));
    }

    private static void firstNamed() {
        x = played();
        Sheets.dueThrow("6 both", INDEX, () -> x.ship(3, 11));
        Sheets.dueThrow("7 both", INDEX, () -> x.fleet(2, 5));
        Sheets.dueThrow("10 both", INDEX, () -> x.gain(3, 8));
        Sheets.dueThrow("13 both", INDEX, () -> x.ram(2, 5));
        Sheets.dueThrow("17 both", INDEX, () -> x.after(3, 11));
        Sheets.dueThrow("18 both", INDEX, () -> x.course(3, 7));
        Sheets.dueThrow("18 sunk, and pulses", INDEX, () -> x.course(1, 7));
        Sheets.dueThrow("24 fleet and key", INDEX, () -> x.seal(2, -1));
        Sheets.dueThrow("24 key and sealed", ARGUMENT, () -> x.seal(0, 1000000));
        Sheets.dueThrow("24 sealed", STATE, () -> x.seal(0, 999999));
        Sheets.dueThrow("23 sealed", STATE, () -> x.write(0));
        Sheets.dueThrow("25 b has not sealed", STATE, () -> x.run());
        Sheets.dueThrow("29 slot, nothing saved", INDEX, () -> x.restore(2));
        Sheets.dueThrow("29 nothing saved", STATE, () -> x.restore(1));
    }

    private static void dueRefused(String what, Class<?> want, Runnable call) {
        x = played();
        Sheets.feed(x, "y a");
        String ahead = Sheets.told(x);
        Sheets.dueThrow(what, want, call);
        Sheets.dueText(what + " changes nothing", Sheets.told(x), ahead);
        Sheets.due(what + " leaves the buffer", x.append(0, 0, 0, 0, 0), 3);
        Sheets.due(what + " leaves the written text", x.writtenByte(0), 'x');
        Sheets.due(what + " leaves the position", x.errorPosition(), FleetSheet.NONE);
        Sheets.due(what + " is no change", x.undo(), 5);
    }

    private static void nothingChanges() {
        dueRefused("23 write of a sealed fleet", STATE, () -> x.write(0));
        dueRefused("23 write of no fleet", INDEX, () -> x.write(2));
        dueRefused("24 seal of a sealed fleet", STATE, () -> x.seal(0, 5));
        dueRefused("24 seal with a wrong key", ARGUMENT, () -> x.seal(1, -5));
        dueRefused("24 seal of no fleet", INDEX, () -> x.seal(-1, 5));
        dueRefused("25 run without a seal", STATE, () -> x.run());
        dueRefused("26 a wrong direction", ARGUMENT, () -> x.setWind(8, 5));
        dueRefused("26 a wrong force", ARGUMENT, () -> x.setWind(5, 10));
        dueRefused("28 no slot", INDEX, () -> x.save(2));
        dueRefused("29 no slot", INDEX, () -> x.restore(-1));
        dueRefused("29 nothing saved", STATE, () -> x.restore(0));
        dueRefused("17 a wrong what", ARGUMENT, () -> x.after(0, 11));
        dueRefused("18 a sunk ship", INDEX, () -> x.course(1, 1));
        dueRefused("31 no byte", INDEX, () -> x.writtenByte(999));
        FleetSheet y = new FleetSheet();
        String ahead = Sheets.told(y);
        Sheets.dueThrow("27 undo of nothing", STATE, () -> y.undo());
        Sheets.dueText("27 changes nothing", Sheets.told(y), ahead);
    }

    /** A text with an error is read and gone, but the sheet is as it was. */
    private static void errorsAreNoChanges() {
        FleetSheet y = played();
        String ahead = Sheets.told(y);
        Sheets.due("3 an error late in the text",
            Sheets.load(y, "sheet 30 4;wind 7 7;shift 1 1 1;fleet c;ship q 29 3 1 hull 7;ship q 1 1 1;"), FleetSheet.TWICE);
        Sheets.dueText("3 the present one stays", Sheets.told(y), ahead);
        Sheets.due("8 its cells, too", y.at(9, 8), 2);
        Sheets.dueIndex("8 no others", () -> y.at(29, 3));
        Sheets.due("12 its shifts, too", y.shift(3, 0), 1);
        FleetSheet z = played();
        Sheets.write(z, 1, "z hhh;");
        ahead = Sheets.told(z);
        Sheets.due("23 an error late in the text", Sheets.write(z, 1, "z lll;z"), FleetSheet.TWICE);
        Sheets.dueText("23 the present ones stay", Sheets.told(z), ahead);
        Sheets.due("5 no changes", z.undo(), 6);
    }
}
