/** Term 3, sentence by sentence: what a pulse does at the bounds that it names. */
public final class PulseBoundsTest {
    public static void main(String[] args) {
        startOfWay();
        mostWay();
        wayInACalm();
        heavingKeepsWay();
        fourEdges();
        lettersThatCannotTurn();
        newHeadingGathers();
        headingsWrap();
        sunkShipRests();
        newlyArrivedShip();
        ringGoes();
        ringRams();
        wreckTakesPart();
        winnerRamsOn();
        lessMassLoses();
        cellOfASunkShip();
        pointsOfThree();
        pointsAddUp();
        fourFleets();
        Sheets.finish();
    }

    private static FleetSheet after(String sheet, String... orders) {
        FleetSheet x = Sheets.of(sheet);
        turn(x, orders);
        return x;
    }

    private static int turn(FleetSheet x, String... orders) {
        for (int fleet = 0; fleet < orders.length; fleet++) {
            if (Sheets.write(x, fleet, orders[fleet]) < 0) {
                throw new IllegalArgumentException("wrong orders in a test: " + orders[fleet]);
            }
        }
        return Sheets.sealAllAndRun(x);
    }

    private static int place(FleetSheet x, int ship) {
        return 100 * x.ship(ship, 1) + x.ship(ship, 2);
    }

    private static void ramDue(FleetSheet x, int ram, int... want) {
        for (int what = 0; what < 5; what++) {
            Sheets.due("ram " + ram + ", " + what, x.ram(ram, what), want[what]);
        }
    }

    /** A ship of sail 1 gathers 72, 81, 89 and then 90. */
    private static void startOfWay() {
        FleetSheet x = Sheets.of("sheet 9 9;wind 3 9;fleet a;ship x 4 4 0 sail 1;");
        int[] winds = {39, 19, 18, 11};
        int[] ways = {72, 81, 89, 0};
        for (int turn = 0; turn < 4; turn++) {
            x.setWind(winds[turn] / 10, winds[turn] % 10);
            turn(x, turn == 0 ? "x aahhhh;" : "x ahhhhh;");
            Sheets.due("3b way behind turn " + turn, x.ship(0, 8), ways[turn]);
            Sheets.due("3b 89 stays, 90 goes, turn " + turn, place(x, 0), turn == 3 ? 403 : 404);
        }
    }

    /** 96 a pulse: 96 is 6 less 90, then 102, then 12 and so on; with 162 a pulse 180 is reached. */
    private static void mostWay() {
        FleetSheet x = after("sheet 30 9;wind 2 4;fleet a;ship x 29 4 6 sail 8;", "x ahhhhh;");
        Sheets.due("3d 90 less", x.ship(0, 8), 6);
        turn(x, "x ahhhhh;");
        Sheets.due("3d 6 and 96 less 90", x.ship(0, 8), 12);
        FleetSheet under = Sheets.of("sheet 30 30;wind 5 5;fleet a;ship x 15 15 0 sail 9;");
        Sheets.due("3b exactly 180", under.gain(0, 0), 180);
        Sheets.due("3b exactly 180 less 90", after("sheet 30 30;wind 5 5;fleet a;ship x 15 15 0 sail 9;", "x ahhhhh;").ship(0, 8), 90);
        FleetSheet over = after("sheet 30 30;wind 4 7;fleet a;ship x 15 15 0 sail 9;", "x ahhhhh;");
        Sheets.due("3b 189 is 180, less 90", over.ship(0, 8), 90);
        FleetSheet twice = after("sheet 30 30;wind 4 6;fleet a;ship x 15 15 0 sail 9;", "x aahhhh;");
        Sheets.due("3b 72 and 162 are 180, less 90", twice.ship(0, 8), 90);
    }

    private static void wayInACalm() {
        FleetSheet x = after("sheet 9 9;wind 4 9;fleet a;ship x 4 8 0 sail 9;", "x ahhhhh;");
        x.setWind(4, 0);
        Sheets.due("3b no growth in a calm", x.gain(0, 0), 0);
        Sheets.due("3b way 90 goes in a calm", x.course(0, 1), 406);
        turn(x, "x aaaaaa;");
        Sheets.due("3b once", place(x, 0), 406);
        Sheets.due("3b and has no way left", x.ship(0, 8), 0);
    }

    private static void heavingKeepsWay() {
        FleetSheet x = after("sheet 9 9;wind 4 9;fleet a;ship x 4 8 0 sail 9;", "x ahhhhh;");
        turn(x, "x hhhhhh;");
        Sheets.due("3b h keeps the way", x.ship(0, 8), 90);
        Sheets.due("3b h does not go with way 90", place(x, 0), 407);
        Sheets.due("3a h is a pulse since it turned", after("sheet 9 9;wind 0 0;fleet a;ship x 4 8 0;", "x lhhhaa;").ship(0, 9), 4);
        Sheets.due("3a so is each one", after("sheet 9 9;wind 0 0;fleet a;ship x 4 8 0;", "x aalhha;").ship(0, 9), 3);
    }

    private static void fourEdges() {
        int[][] edges = {{4, 0, 0}, {4, 0, 7}, {4, 0, 1}, {8, 4, 1}, {8, 4, 2}, {8, 4, 3},
            {4, 6, 3}, {4, 6, 4}, {4, 6, 5}, {0, 4, 5}, {0, 4, 6}, {0, 4, 7}};
        for (int[] e : edges) {
            String where = e[0] + " " + e[1] + " " + e[2];
            FleetSheet x = Sheets.of("sheet 9 7;fleet a;ship x " + where + " sail 9;");
            x.setWind((e[2] + 4) % 8, 9);
            Sheets.due("3b off the sheet at " + where, x.course(0, 1), 100 * e[0] + e[1]);
            turn(x, "x ahhhhh;");
            Sheets.due("3b it stays at " + where, place(x, 0), 100 * e[0] + e[1]);
            Sheets.due("3b its way becomes 0 at " + where, x.ship(0, 8), 0);
        }
        int[][] inside = {{4, 1, 0, 400}, {7, 4, 2, 804}, {4, 5, 4, 406}, {1, 4, 6, 4}};
        for (int[] e : inside) {
            String where = e[0] + " " + e[1] + " " + e[2];
            FleetSheet x = Sheets.of("sheet 9 7;fleet a;ship x " + where + " sail 9;");
            x.setWind((e[2] + 4) % 8, 9);
            Sheets.due("3b to the last cell from " + where, x.course(0, 1), e[3]);
        }
    }

    private static void lettersThatCannotTurn() {
        FleetSheet x = Sheets.of("sheet 9 9;wind 4 9;fleet a;ship x 8 8 0 sail 9 stiff 3;");
        Sheets.write(x, 0, "x llrrla;");
        int[] want = {808, 707, 606, 505, 404, 304, 204};
        for (int pulses = 0; pulses <= 6; pulses++) {
            Sheets.due("3a l and r as a, behind " + pulses, x.course(0, pulses), want[pulses]);
        }
        for (int stiff = 0; stiff <= 3; stiff++) {
            FleetSheet y = after("sheet 9 9;wind 0 0;fleet a;ship x 4 4 0 stiff " + stiff + ";", "x rhhhhh;");
            Sheets.due("3a turned 5 pulses ago", y.ship(0, 9), 4);
            for (int wait = 0; wait <= 4; wait++) {
                String letters = "r" + "aaaa".substring(0, wait) + "r";
                FleetSheet z = after("sheet 9 9;wind 0 0;fleet a;ship x 4 4 0 stiff " + stiff + ";", "x " + letters + ";");
                Sheets.due("3a stiffness " + stiff + ", " + letters, z.ship(0, 3), wait + 1 > stiff ? 2 : 1);
            }
        }
    }

    private static void newHeadingGathers() {
        FleetSheet x = after("sheet 9 9;wind 0 9;fleet a;ship x 4 4 0 sail 9 stiff 0;", "x rrhhhh;");
        Sheets.due("3b by the heading behind the turn", place(x, 0), 504);
        FleetSheet y = after("sheet 9 9;wind 0 9;fleet a;ship x 4 4 1 sail 9;", "x lhhhhh;");
        Sheets.due("3b none against the wind", y.ship(0, 8), 0);
        FleetSheet z = after("sheet 9 9;wind 0 9;fleet a;ship x 4 4 1 sail 9;", "x ahhhhh;");
        Sheets.due("3b 81 at the angle 1", z.ship(0, 8), 81);
    }

    private static void headingsWrap() {
        String calm = "sheet 9 9;wind 0 0;fleet a;ship x 4 4 ";
        for (int heading = 0; heading < 8; heading++) {
            Sheets.due("3a left of " + heading, after(calm + heading + ";", "x l;").ship(0, 3), (heading + 7) % 8);
            Sheets.due("3a right of " + heading, after(calm + heading + ";", "x r;").ship(0, 3), (heading + 1) % 8);
        }
    }

    /** Pulses are for ships that are not sunk: a sunk one neither turns nor gathers way. */
    private static void sunkShipRests() {
        FleetSheet x = after("sheet 9 9;wind 0 9;fleet a;ship x 4 3 4 sail 9;"
            + "fleet b;ship y 4 4 3 hull 1 stiff 0 sail 9;", "x ahhhhh;", "y hlllll;");
        long[] want = {1, -1, -1, 3, 0, 3, 9, 0, 0, 4, 0};
        for (int turn = 0; turn < 2; turn++) {
            for (int what = 0; what < want.length; what++) {
                Sheets.due("3e sunk since pulse 0, " + what, x.ship(1, what), want[what]);
            }
            turn(x, "x hhhhhh;");
        }
        Sheets.due("3 it comes to no cell", x.at(0, 0), FleetSheet.NONE);
        FleetSheet late = after("sheet 9 9;wind 0 9;fleet a;ship x 4 3 4 sail 9;"
            + "fleet b;ship y 4 4 1 hull 1 stiff 1 sail 9;", "x hhahhh;", "y lhhrrr;");
        Sheets.due("3e sunk in pulse 2: it turned ahead of that alone", late.ship(1, 3), 0);
        Sheets.due("3e sunk in pulse 2: pulses since it turned", late.ship(1, 9), 2);
    }

    /** A ship that came to its cell in the pulse before and does not go now is not going to that cell. */
    private static void newlyArrivedShip() {
        String x = "ship x 4 3 4 sail 9 mass 2;";
        String y = "ship y 6 4 6 sail 9 mass 9;";
        FleetSheet first = after("sheet 9 9;wind 0 9;fleet a;" + x + y, "x ahhhhh;y aahhhh;");
        Sheets.due("3c one ram", first.count(7), 1);
        ramDue(first, 0, 1, 0, 1, 27, 1);
        Sheets.due("3c y does not go on", place(first, 1), 504);
        FleetSheet second = after("sheet 9 9;wind 0 9;fleet a;" + y + x, "x ahhhhh;y aahhhh;");
        Sheets.due("3c one ram, the other way round", second.count(7), 1);
        ramDue(second, 0, 1, 0, 1, 1, 27);
        Sheets.due("3c y does not go on, the other way round", place(second, 0), 504);
    }

    private static final int[][] RING = {{1, 6, 1}, {2, 5, 1}, {3, 4, 1}, {4, 3, 2}, {5, 3, 4}, {5, 4, 4},
        {5, 5, 4}, {5, 6, 6}, {4, 6, 6}, {3, 6, 6}, {2, 6, 6}};

    /** Eleven ships, each going to the cell of the next one in pulse 1. */
    private static String ring() {
        StringBuilder t = new StringBuilder("sheet 9 9;wind 0 9;fleet a;");
        for (int i = 0; i < RING.length; i++) {
            t.append("ship ").append((char) ('a' + i)).append(' ').append(RING[i][0]).append(' ').append(RING[i][1])
                .append(' ').append(RING[i][2]).append(" sail 9 hull 99;");
        }
        return t.toString();
    }

    private static String ringOrders() {
        StringBuilder t = new StringBuilder();
        for (int i = 0; i < RING.length; i++) {
            t.append((char) ('a' + i)).append(RING[i][2] == 1 ? " aahhhh;" : " hahhhh;");
        }
        return t.toString();
    }

    private static void ringGoes() {
        FleetSheet x = after(ring(), ringOrders());
        Sheets.due("3c all go at once: no ram", x.count(7), 0);
        for (int i = 0; i < RING.length; i++) {
            int[] next = RING[(i + 1) % RING.length];
            Sheets.due("3d ship " + i, place(x, i), 100 * next[0] + next[1]);
        }
    }

    /** A twelfth ship wins the first cell of the ring: all the others stop one behind the other, then it stops, too. */
    private static void ringRams() {
        FleetSheet x = Sheets.of(ring() + "ship z 0 5 3 sail 9 mass 9 hull 99;");
        Sheets.write(x, 0, ringOrders() + "z hahhhh;");
        x.seal(0, 0);
        Sheets.due("3c again and again", x.run(), 12);
        ramDue(x, 0, 1, 10, 11, 22, 7);
        for (int ram = 1; ram < 11; ram++) {
            Sheets.due("3c lower ship of ram " + ram, x.ram(ram, 1), ram == 1 ? 9 : 10 - ram);
            Sheets.due("3c pulse of ram " + ram, x.ram(ram, 0), 1);
        }
        ramDue(x, 11, 1, 0, 11, 27, 1);
        for (int i = 0; i < RING.length; i++) {
            Sheets.due("3c it does not go: " + i, place(x, i), 100 * RING[i][0] + RING[i][1]);
        }
        Sheets.due("3c nor does the last one", place(x, 11), 5);
    }

    /** A ship whose hull is 0 or less by now still takes part in this pulse. */
    private static void wreckTakesPart() {
        FleetSheet x = after("sheet 9 9;wind 0 9;fleet a;ship y 4 4 0 hull 1;"
            + "fleet b;ship x 3 4 2 sail 9;ship w 5 4 6 sail 9;", "y hhhhhh;", "x ahhhhh;w ahhhhh;");
        Sheets.due("3c both ram it", x.count(7), 2);
        ramDue(x, 0, 0, 0, 1, 9, 1);
        ramDue(x, 1, 0, 0, 2, 9, 1);
        Sheets.due("3c x does not go", place(x, 1), 304);
        Sheets.due("3c w does not go", place(x, 2), 504);
        Sheets.due("3e the hull of y is 0", x.ship(0, 4), 0);
        FleetSheet exact = after("sheet 9 9;wind 0 9;fleet a;ship x 4 3 4 sail 9;fleet b;ship y 4 4 4 hull 3;ship z 1 1 1 hull 4;",
            "x ahhhhh;", "y hhhhhh;z hhhhhh;");
        Sheets.due("3e 0 is all its hull", exact.ship(1, 1), FleetSheet.NONE);
        FleetSheet left = after("sheet 9 9;wind 0 9;fleet a;ship x 4 3 4 sail 9;fleet b;ship y 4 4 4 hull 4;",
            "x ahhhhh;", "y hhhhhh;");
        Sheets.due("3e 1 is not", left.ship(1, 4), 1);
        Sheets.due("3e it is there", left.at(4, 4), 1);
    }

    /** x wins a cell, though its hull is gone, and strikes z, which goes there, too. */
    private static void winnerRamsOn() {
        FleetSheet x = after("sheet 9 9;wind 0 9;fleet a;ship x 3 4 2 sail 9 mass 9 hull 1;"
            + "fleet b;ship y 5 4 6 sail 9 mass 8 hull 99;ship z 4 3 4 sail 9 mass 1 hull 99;",
            "x ahhhhh;", "y ahhhhh;z ahhhhh;");
        Sheets.due("3c two rams", x.count(7), 2);
        ramDue(x, 0, 0, 0, 1, 20, 22);
        ramDue(x, 1, 0, 0, 2, 3, 31);
        Sheets.due("3e sunk behind it", x.ship(0, 1), FleetSheet.NONE);
        Sheets.due("3d nobody else came there", x.at(4, 4), FleetSheet.NONE);
        Sheets.due("3e points of the fleet that struck it", x.fleet(1, 1), 9);
    }

    private static void lessMassLoses() {
        String sheet = "sheet 9 9;wind 0 9;fleet a;ship x 3 4 2 sail 9 mass %;fleet b;ship y 5 4 6 sail 9 mass 5;";
        for (int mass = 4; mass <= 6; mass++) {
            FleetSheet x = after(sheet.replace("%", "" + mass), "x ahhhhh;", "y ahhhhh;");
            Sheets.due("3c mass " + mass + " and 5", x.at(4, 4), mass == 4 ? 1 : 0);
            Sheets.due("3c the other one stays, mass " + mass, mass == 4 ? place(x, 0) : place(x, 1), mass == 4 ? 304 : 504);
        }
    }

    private static void cellOfASunkShip() {
        FleetSheet x = after("sheet 9 9;wind 0 9;fleet a;ship x 4 3 4 sail 9;fleet b;ship y 4 4 0 hull 1;",
            "x aahhhh;", "y hhhhhh;");
        Sheets.due("1 it is in no cell: one ram", x.count(7), 1);
        Sheets.due("1 x goes where it was", place(x, 0), 404);
        Sheets.due("1 x alone is there", x.at(4, 4), 0);
    }

    private static void pointsOfThree() {
        FleetSheet x = after("sheet 9 9;wind 0 9;fleet a;ship y 4 4 0 hull 9 mass 7;fleet b;ship x 3 4 2 sail 9;"
            + "fleet c;ship w 5 4 6 sail 9;fleet d;ship v 4 3 4 sail 9;",
            "y hhhhhh;", "x ahhhhh;", "w ahhhhh;", "v hhhhhh;");
        int[] want = {0, 7, 7, 0};
        for (int fleet = 0; fleet < 4; fleet++) {
            Sheets.due("3e points of fleet " + fleet, x.fleet(fleet, 1), want[fleet]);
        }
    }

    private static void pointsAddUp() {
        FleetSheet x = after("sheet 9 9;wind 0 9;fleet a;ship x 4 3 4 sail 9;fleet b;ship y 4 4 0 hull 1 mass 7;"
            + "ship z 4 5 0 hull 1 mass 9;", "x aahhhh;", "y hhhhhh;z hhhhhh;");
        Sheets.due("3e points of the first turn", x.fleet(0, 1), 7);
        turn(x, "x ahhhhh;", "z hhhhhh;");
        Sheets.due("3e points of the second turn, too", x.fleet(0, 1), 16);
        Sheets.due("6 it sank in turn 0", x.ship(1, 10), 0);
        Sheets.due("6 it sank in turn 1", x.ship(2, 10), 1);
        Sheets.due("5 the only fleet", x.count(10), 0);
    }

    private static void fourFleets() {
        FleetSheet x = Sheets.of("sheet 9 9;wind 0 0;fleet a;ship x 0 0 0;fleet b;ship y 1 1 0;fleet c;ship z 2 2 0;fleet d;ship w 3 3 0;");
        for (int turn = 0; turn < 12; turn++) {
            for (int fleet = 0; fleet < 4; fleet++) {
                Sheets.dueState("25 fleet " + fleet + " has not sealed", () -> x.run());
                x.seal(fleet, 10 * turn + fleet);
            }
            Sheets.due("25 all have sealed", x.run(), 0);
        }
        for (int turn = 2; turn < 12; turn++) {
            for (int fleet = 0; fleet < 4; fleet++) {
                Sheets.due("15 turn " + turn + ", fleet " + fleet, x.check(turn, fleet, 10 * turn + fleet), true);
                Sheets.due("15 not another key", x.check(turn, fleet, 10 * turn + fleet + 1), false);
            }
        }
    }
}
