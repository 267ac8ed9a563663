/** Promises 17 to 22: after, course, meet, spares, bestWind, pace. */
public final class WouldBeTest {
    private static final String DUEL = "sheet 10 10;wind 0 5;fleet a;ship x 2 5 4;fleet b;ship y 2 8 0 mass 5 hull 9;";

    public static void main(String[] args) {
        after();
        course();
        meet();
        spares();
        bestWind();
        pace();
        nothingChanges();
        Sheets.finish();
    }

    private static void after() {
        FleetSheet x = Sheets.of(DUEL);
        int[][] want = {{0, 2, 7, 4, 16, 3, 5, 1, 0, 4, -1}, {1, -1, -1, 0, 0, 5, 5, 1, 0, 4, 0}};
        for (int ship = 0; ship < 2; ship++) {
            for (int what = 0; what < 11; what++) {
                Sheets.due("17 ship " + ship + ", " + what, x.after(ship, what), want[ship][what]);
            }
        }
        Sheets.dueIndex("17 ship 2", () -> x.after(2, 11));
        Sheets.dueIndex("17 ship -1", () -> x.after(-1, 0));
        Sheets.dueArgument("17 what 11", () -> x.after(0, 11));
        Sheets.dueArgument("17 what -1", () -> x.after(1, -1));
        Sheets.write(x, 0, "x r;");
        Sheets.due("17 with the orders as they are", x.after(0, 3), 5);
        x.seal(0, 1);
        Sheets.due("17 sealed, too", x.after(0, 3), 5);
        Sheets.sealAllAndRun(x);
        Sheets.due("17 a turn later", x.after(0, 3), 5);
        FleetSheet y = Sheets.of("sheet 9 9;wind 0 0;shift 1 0 9;fleet a;ship x 4 0 4 sail 9;");
        Sheets.due("17 no shift yet", y.after(0, 2), 0);
        Sheets.sealAllAndRun(y);
        Sheets.due("17 with the shift of the turn at hand", y.after(0, 2), 6);
        FleetSheet z = Sheets.of(DUEL);
        Sheets.sealAllAndRun(z);
        Sheets.sealAllAndRun(z);
        for (int what = 0; what < 11; what++) {
            Sheets.due("17 a sunk ship, " + what, z.after(1, what), z.ship(1, what));
        }
    }

    private static void course() {
        FleetSheet x = Sheets.of(DUEL);
        int[] want = {205, 205, 206, 207, 208, 209, 209};
        for (int pulses = 0; pulses <= 6; pulses++) {
            Sheets.due("18 as if alone, " + pulses, x.course(0, pulses), want[pulses]);
        }
        Sheets.due("18 of the other", x.course(1, 6), 208);
        Sheets.dueIndex("18 ship 2", () -> x.course(2, 7));
        Sheets.dueIndex("18 ship -1", () -> x.course(-1, 0));
        Sheets.dueArgument("18 pulses 7", () -> x.course(0, 7));
        Sheets.dueArgument("18 pulses -1", () -> x.course(0, -1));
        Sheets.sealAllAndRun(x);
        Sheets.dueIndex("18 a sunk ship", () -> x.course(1, 0));
        Sheets.dueIndex("18 a sunk ship, wrong pulses", () -> x.course(1, 9));
        FleetSheet y = Sheets.of("sheet 30 30;wind 0 0;shift 0 0 9;fleet a;ship x 14 3 4 sail 9 stiff 0;");
        Sheets.due("18 with a shift", y.course(0, 6), 1409);
        Sheets.write(y, 0, "x lhr;");
        Sheets.due("18 with its letters", y.course(0, 6), 1508);
    }

    private static void meet() {
        FleetSheet x = Sheets.of("sheet 10 10;wind 0 5;fleet a;ship x 2 5 4;fleet b;ship y 2 8 0 mass 5;ship z 9 9 0;");
        Sheets.due("19 the first time", x.meet(0, 1), 3);
        Sheets.due("19 the other way round", x.meet(1, 0), 3);
        Sheets.due("19 never", x.meet(0, 2), FleetSheet.NONE);
        FleetSheet later = Sheets.of("sheet 10 10;wind 0 5;fleet b;ship z 9 9 0;ship y 2 8 0 mass 5;fleet a;ship x 2 5 4;");
        Sheets.due("19 of other numbers", later.meet(1, 2), 3);
        Sheets.due("19 of other numbers, the other way round", later.meet(2, 1), 3);
        Sheets.due("19 of other numbers, never", later.meet(2, 0), FleetSheet.NONE);
        Sheets.due("19 the same", x.meet(1, 1), FleetSheet.NONE);
        Sheets.dueIndex("19 ship 3", () -> x.meet(3, 0));
        Sheets.dueIndex("19 other 3", () -> x.meet(0, 3));
        Sheets.dueIndex("19 ship -1", () -> x.meet(-1, 0));
        Sheets.dueIndex("19 other -1", () -> x.meet(0, -1));
        Sheets.dueIndex("19 the same that does not exist", () -> x.meet(3, 3));
        StringBuilder t = new StringBuilder("sheet 12 4;wind 0 9;shift 0 0 9;fleet a;");
        for (int i = 0; i < 6; i++) {
            t.append("ship ").append((char) ('a' + i)).append(' ').append(i).append(" 1 4 hull 99 mass 1 sail 9;");
            t.append("ship ").append((char) ('m' + i)).append(' ').append(i).append(" 2 0 hull 99 mass 1;");
        }
        FleetSheet y = Sheets.of(t.toString());
        Sheets.write(y, 0, "f hhhhha;");
        Sheets.due("19 the 31st ram counts", y.meet(10, 11), 5);
    }

    private static void spares() {
        FleetSheet x = Sheets.of(DUEL);
        Sheets.due("20 left", x.spares(0, 3), 2);
        Sheets.due("20 several: the first", Sheets.of(DUEL + "ship z 9 9 0;").spares(2, 5), 1);
        Sheets.dueIndex("20 ship 2", () -> x.spares(2, 0));
        Sheets.dueIndex("20 ship -1", () -> x.spares(-1, 0));
        Sheets.dueIndex("20 pulse 6", () -> x.spares(0, 6));
        Sheets.dueIndex("20 pulse -1", () -> x.spares(0, -1));
        FleetSheet h = Sheets.of("sheet 4 4;wind 0 9;fleet a;ship x 1 0 4 sail 9;"
            + "fleet b;ship y 1 1 0 hull 99;ship z 2 1 0 hull 99;ship w 0 1 0 hull 99;");
        Sheets.write(h, 0, "x ahhhhh;");
        Sheets.due("20 heave to", h.spares(0, 0), 4);
        Sheets.write(h, 0, "x hhhhhh;");
        Sheets.due("20 all other letters as they are", h.spares(0, 1), 4);
        FleetSheet r = Sheets.of("sheet 4 4;wind 0 9;shift 0 0 9;fleet a;ship x 1 0 4 sail 9;"
            + "fleet b;ship y 1 1 0 hull 99;ship z 2 1 0 hull 99;ship w 0 0 4 sail 9;");
        Sheets.write(r, 0, "x ahhhhh;");
        Sheets.write(r, 1, "w hhhhhh;y hhhhhh;z hhhhhh;");
        Sheets.due("20 right", r.spares(0, 0), 3);
        FleetSheet s = Sheets.of(DUEL.replace("wind 0 5;", "wind 0 0;shift 0 0 5;"));
        Sheets.due("20 with a shift", s.spares(0, 3), 2);
        FleetSheet d = Sheets.of(DUEL);
        Sheets.sealAllAndRun(d);
        Sheets.due("20 a sunk ship: all alike", d.spares(1, 3), 1);
    }

    private static void bestWind() {
        FleetSheet x = Sheets.of(DUEL);
        Sheets.due("21 of a", x.bestWind(0), 0);
        Sheets.due("21 of b", x.bestWind(1), 3);
        Sheets.dueIndex("21 fleet 2", () -> x.bestWind(2));
        Sheets.dueIndex("21 fleet -1", () -> x.bestWind(-1));
        FleetSheet y = Sheets.of("sheet 10 10;wind 0 0;shift 0 0 5;fleet a;ship x 2 5 4;fleet b;ship y 2 8 0 mass 5 hull 9;fleet c;");
        Sheets.due("21 shifts do not count", y.bestWind(1), 0);
        y.setWind(4, 5);
        Sheets.due("21 with its force", y.bestWind(1), 3);
        Sheets.due("21 without ships: the first", y.bestWind(2), 0);
        FleetSheet z = Sheets.of("sheet 4 20;wind 0 9;fleet a;ship x 1 0 4 sail 9;ship y 1 1 0 sail 1;");
        Sheets.due("21 the whole fleet", z.bestWind(0), 4);
    }

    private static void pace() {
        FleetSheet x = Sheets.of("sheet 10 10;wind 0 5;fleet a;ship x 2 5 4;ship w 5 0 4;ship v 7 9 4;"
            + "fleet b;ship y 2 8 0 mass 5 hull 9;fleet c;");
        duePace("22 quotient", x.pace(0), 7f / 3f);
        duePace("22 the same again", x.pace(0), 7f / 3f);
        duePace("22 none goes", x.pace(1), 0f);
        duePace("22 no ships", x.pace(2), 0f);
        Sheets.dueIndex("22 fleet 3", () -> x.pace(3));
        Sheets.dueIndex("22 fleet -1", () -> x.pace(-1));
        FleetSheet y = Sheets.of("sheet 10 10;wind 0 5;shift 0 0 9;fleet a;ship x 2 5 4 sail 9 hull 1;fleet b;ship y 2 8 0 mass 5 hull 99;");
        duePace("22 what it goes until it sinks", y.pace(0), 2f);
        Sheets.sealAllAndRun(y);
        duePace("22 a sunk one", y.pace(0), 0f);
        FleetSheet z = Sheets.of("sheet 10 10;wind 0 9;fleet a;ship x 3 4 2 sail 9 mass 9 hull 5;"
            + "fleet b;ship y 5 4 6 sail 9 mass 9 hull 5;");
        duePace("22 a cell in the pulse in which it sinks", z.pace(0), 1f);
        duePace("22 none for the other", z.pace(1), 0f);
    }

    private static void duePace(String what, float got, float want) {
        Sheets.dueText(what, Float.toString(got), Float.toString(want));
    }

    private static void nothingChanges() {
        FleetSheet x = Sheets.of(DUEL);
        Sheets.write(x, 0, "x h;");
        Sheets.sealAllAndRun(x);
        Sheets.write(x, 0, "x lr;");
        String ships = Sheets.ships(x);
        int rams = x.count(7);
        x.after(0, 0);
        x.course(0, 6);
        x.meet(0, 1);
        x.spares(0, 0);
        x.bestWind(0);
        x.pace(0);
        Sheets.dueText("the ships are as before", Sheets.ships(x), ships);
        Sheets.due("the rams", x.count(7), rams);
        Sheets.due("the turn", x.count(4), 1);
        Sheets.due("the wind", x.count(5), 0);
        Sheets.due("the orders", x.fleet(0, 4), 2);
        Sheets.due("no change to undo", x.undo(), 5);
    }
}
