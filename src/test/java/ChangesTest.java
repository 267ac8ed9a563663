/** Promises 23 to 29: write, seal, run, setWind, undo, save, restore; UndoTest has more of the last three. */
public final class ChangesTest {
    private static final String DUEL = "sheet 10 10;wind 0 5;fleet a;ship x 2 5 4;fleet b;ship y 2 8 0 mass 5 hull 9;";

    public static void main(String[] args) {
        write();
        seal();
        run();
        setWind();
        eightChanges();
        whatUndoLeaves();
        saves();
        noChanges();
        Sheets.finish();
    }

    private static void write() {
        FleetSheet x = Sheets.of("sheet 10 10;fleet a;ship x 2 5 4;ship w 1 1 1;fleet b;ship y 2 8 0;");
        Sheets.write(x, 1, "y h;");
        Sheets.due("23 two ships", Sheets.write(x, 0, "w lr;x hhhhhh;"), 2);
        Sheets.due("23 letters", x.fleet(0, 4), 8);
        Sheets.due("23 the buffer is empty", x.append(0, 0, 0, 0, 0), 0);
        Sheets.due("23 one ship", Sheets.write(x, 0, "w r;"), 1);
        Sheets.due("23 they replace all", x.fleet(0, 4), 1);
        Sheets.due("23 of this fleet", x.fleet(1, 4), 1);
        Sheets.due("23 an error", Sheets.write(x, 0, "w h;x lllb;"), FleetSheet.VALUE_ERROR);
        Sheets.due("23 the buffer is empty behind it", x.append(0, 0, 0, 0, 0), 0);
        Sheets.due("23 they stay", x.order(1, 0), 3);
        Sheets.due("23 no ship", x.write(0), 0);
        Sheets.due("23 all ahead", x.fleet(0, 4), 0);
        Sheets.feed(x, "w r;");
        Sheets.dueIndex("23 fleet 2", () -> x.write(2));
        Sheets.dueIndex("23 fleet -1", () -> x.write(-1));
        x.seal(0, 0);
        Sheets.dueState("23 sealed", () -> x.write(0));
        Sheets.due("23 the buffer stays", x.append(0, 0, 0, 0, 0), 4);
        Sheets.due("23 the other fleet may", x.write(1), FleetSheet.UNKNOWN);
        FleetSheet y = Sheets.of(DUEL);
        Sheets.sealAllAndRun(y);
        Sheets.due("23 a sunk ship", Sheets.write(y, 1, "y a;"), FleetSheet.UNKNOWN);
        Sheets.due("23 none left", Sheets.write(y, 1, ""), 0);
    }

    private static void seal() {
        FleetSheet x = Sheets.of(DUEL);
        Sheets.due("24 the seal", x.seal(0, 7), 90497);
        Sheets.due("24 has sealed", x.fleet(0, 3), 1);
        Sheets.dueState("24 twice", () -> x.seal(0, 8));
        Sheets.dueArgument("24 twice with a wrong key", () -> x.seal(0, -1));
        Sheets.dueArgument("24 key 1000000", () -> x.seal(1, 1000000));
        Sheets.dueIndex("24 fleet 2", () -> x.seal(2, -1));
        Sheets.dueIndex("24 fleet -1", () -> x.seal(-1, 0));
        Sheets.due("24 key 0", x.seal(1, 0), 583369);
        x.run();
        Sheets.due("24 in the next turn again", x.seal(0, 0), 583369);
    }

    private static void run() {
        FleetSheet x = Sheets.of(DUEL);
        Sheets.dueState("25 not sealed", () -> x.run());
        x.seal(0, 1);
        Sheets.dueState("25 b has not sealed", () -> x.run());
        x.seal(1, 1);
        Sheets.due("25 rams", x.run(), 2);
        x.seal(0, 1);
        Sheets.due("25 b is sunk and need not seal", x.run(), 0);
    }

    private static void setWind() {
        FleetSheet x = Sheets.of(DUEL);
        Sheets.due("26 before", x.setWind(7, 9), 5);
        Sheets.due("26 before", x.setWind(3, 0), 79);
        Sheets.due("26 before", x.setWind(0, 4), 30);
        Sheets.due("26 direction", x.count(5), 0);
        Sheets.due("26 force", x.count(6), 4);
        Sheets.dueArgument("26 direction 8", () -> x.setWind(8, 0));
        Sheets.dueArgument("26 direction -1", () -> x.setWind(-1, 0));
        Sheets.dueArgument("26 force 10", () -> x.setWind(0, 10));
        Sheets.dueArgument("26 force -1", () -> x.setWind(0, -1));
        Sheets.due("26 nothing changes then", x.count(6), 4);
    }

    private static void eightChanges() {
        FleetSheet x = new FleetSheet();
        for (int i = 0; i < 21; i++) {
            x.setWind(i % 8, i % 10);
        }
        for (int left = 7; left >= 0; left--) {
            Sheets.due("27 left", x.undo(), left);
            Sheets.due("27 the wind before", 10 * x.count(5) + x.count(6), 10 * ((12 + left) % 8) + (12 + left) % 10);
        }
        Sheets.dueState("27 older ones cannot", () -> x.undo());
        x.setWind(1, 1);
        x.setWind(1, 1);
        Sheets.due("27 also if nothing is another one then", x.undo(), 1);
        Sheets.due("27 the last one", x.undo(), 0);
        for (int i = 0; i < 10; i++) {
            x.setWind(2, i);
        }
        x.undo();
        x.undo();
        x.undo();
        x.setWind(3, 3);
        x.setWind(4, 4);
        Sheets.due("27 five and two", x.undo(), 6);
    }

    private static void whatUndoLeaves() {
        FleetSheet x = Sheets.of(DUEL);
        x.writeShips();
        Sheets.write(x, 0, "x lr;");
        Sheets.write(x, 0, "x b;");
        Sheets.feed(x, "x hhh;");
        x.save(0);
        x.undo();
        Sheets.due("27 not the position of the error", x.errorPosition(), 2);
        Sheets.due("27 not the text buffer", x.append(0, 0, 0, 0, 0), 6);
        x.undo();
        Sheets.due("27 not the written text", x.writtenByte(0), 'x');
        Sheets.due("27 not what was saved", x.restore(0), 0);
        Sheets.due("27 which has the orders", x.fleet(0, 4), 2);
        Sheets.due("29 restore leaves the buffer", x.append(0, 0, 0, 0, 0), 6);
    }

    private static void saves() {
        FleetSheet x = new FleetSheet();
        Sheets.dueIndex("28 slot 2", () -> x.save(2));
        Sheets.dueIndex("28 slot -1", () -> x.save(-1));
        Sheets.dueIndex("29 slot 2", () -> x.restore(2));
        Sheets.dueIndex("29 slot -1", () -> x.restore(-1));
        FleetSheet y = new FleetSheet();
        Sheets.dueState("29 nothing is saved", () -> y.restore(0));
        y.save(1);
        Sheets.dueState("29 not there", () -> y.restore(0));
        Sheets.due("29 there", y.restore(1), 0);
        Sheets.due("28 save is no change, restore is one", y.undo(), 0);
        y.setWind(1, 1);
        y.save(0);
        y.setWind(2, 2);
        y.restore(0);
        y.undo();
        Sheets.due("28 not what can be undone", y.undo(), 1);
    }

    private static void noChanges() {
        FleetSheet x = Sheets.of(DUEL);
        x.seal(0, 0);
        Sheets.load(x, "sheet");
        Sheets.write(x, 1, "y b;");
        Sheets.dueState("refused", () -> x.seal(0, 0));
        Sheets.dueState("refused", () -> x.write(0));
        Sheets.dueState("refused", () -> x.run());
        Sheets.dueState("refused", () -> x.restore(0));
        Sheets.dueArgument("refused", () -> x.setWind(9, 9));
        x.save(0);
        x.writeShips();
        x.after(0, 0);
        Sheets.due("27 no changes", x.undo(), 1);
    }
}
