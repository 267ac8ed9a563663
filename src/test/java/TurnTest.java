/** Term 3 and promise 25: how a turn is carried out. */
public final class TurnTest {
    public static void main(String[] args) {
        turning();
        way();
        edge();
        strikes();
        oneGoal();
        swap();
        chain();
        order();
        points();
        manyRams();
        wind();
        beginning();
        refusals();
        Sheets.finish();
    }

    private static FleetSheet after(String sheet, String... orders) {
        FleetSheet x = Sheets.of(sheet);
        for (int fleet = 0; fleet < orders.length; fleet++) {
            if (Sheets.write(x, fleet, orders[fleet]) < 0) {
                throw new IllegalArgumentException("wrong orders in a test: " + orders[fleet]);
            }
        }
        Sheets.sealAllAndRun(x);
        return x;
    }

    private static void shipDue(FleetSheet x, int ship, int... want) {
        for (int what = 0; what < want.length; what++) {
            Sheets.due("ship " + ship + ", " + (what + 1), x.ship(ship, what + 1), want[what]);
        }
    }

    private static void ramDue(FleetSheet x, int ram, int... want) {
        for (int what = 0; what < 5; what++) {
            Sheets.due("ram " + ram + ", " + what, x.ram(ram, what), want[what]);
        }
    }

    private static void turning() {
        String calm = "sheet 9 9;wind 0 0;fleet a;ship x 4 4 0 stiff ";
        Sheets.due("stiffness 0 turns each pulse", after(calm + "0;", "x llllll;").ship(0, 3), 2);
        Sheets.due("stiffness 1 turns each second pulse", after(calm + "1;", "x rrrrrr;").ship(0, 3), 3);
        Sheets.due("stiffness 2 turns each third pulse", after(calm + "2;", "x llllll;").ship(0, 3), 6);
        FleetSheet stiff = after(calm + "3;", "x rlrlrl;");
        Sheets.due("stiffness 3 turns in pulses 0 and 4", stiff.ship(0, 3), 2);
        Sheets.due("since then", stiff.ship(0, 9), 1);
        FleetSheet x = after(calm + "3;", "x hhhhhr;");
        Sheets.due("turned in the latest pulse", x.ship(0, 9), 0);
        Sheets.write(x, 0, "x rrrlaa;");
        Sheets.sealAllAndRun(x);
        Sheets.due("it stays stiff in the next turn", x.ship(0, 3), 0);
        Sheets.due("pulses since it turned", x.ship(0, 9), 2);
        Sheets.sealAllAndRun(x);
        Sheets.due("at most 4", x.ship(0, 9), 4);
        Sheets.due("h turns nothing", after(calm + "0;", "x hhhhhh;").ship(0, 3), 0);
    }

    private static void way() {
        FleetSheet x = Sheets.of("sheet 30 9;wind 2 2;fleet a;ship x 29 4 6 sail 5;");
        long[] columns = {29, 29, 29, 28, 28, 28, 27};
        for (int pulses = 0; pulses <= 6; pulses++) {
            Sheets.due("30 a pulse: behind " + pulses, x.course(0, pulses), 100 * columns[pulses] + 4);
        }
        Sheets.sealAllAndRun(x);
        shipDue(x, 0, 27, 4, 6, 20, 3, 5, 1, 0, 4);
        FleetSheet fast = after("sheet 30 9;wind 2 9;fleet a;ship x 29 4 6 sail 9;");
        shipDue(fast, 0, 23, 4, 6, 20, 3, 9, 1, 90, 4);
        FleetSheet hove = after("sheet 30 9;wind 2 9;fleet a;ship x 29 4 6 sail 9;", "x ahhhhh;");
        shipDue(hove, 0, 28, 4, 6, 20, 3, 9, 1, 90, 4);
        FleetSheet against = after("sheet 9 9;wind 6 9;fleet a;ship x 4 4 6 sail 9;");
        shipDue(against, 0, 4, 4, 6, 20, 3, 9, 1, 0, 4);
        int[][] goals = {{4, 3}, {5, 3}, {5, 4}, {5, 5}, {4, 5}, {3, 5}, {3, 4}, {3, 3}};
        for (int heading = 0; heading < 8; heading++) {
            FleetSheet y = Sheets.of("sheet 9 9;wind 0 9;fleet a;ship x 4 4 " + heading + " sail 9;");
            y.setWind((heading + 4) % 8, 9);
            Sheets.due("heading " + heading, y.course(0, 1), 100 * goals[heading][0] + goals[heading][1]);
        }
    }

    private static void edge() {
        FleetSheet x = after("sheet 9 9;wind 0 9;fleet a;ship x 4 7 4 sail 5;ship y 1 8 3;");
        shipDue(x, 0, 4, 8, 4, 20, 3, 5, 1, 0, 4);
        shipDue(x, 1, 1, 8, 3, 20, 3, 5, 1, 0, 4);
        String[] corners = {"0 0 0", "8 0 1", "8 8 2", "8 8 3", "8 8 4", "0 8 5", "0 0 6", "0 0 7"};
        for (int k = 0; k < 8; k++) {
            FleetSheet y = Sheets.of("sheet 9 9;fleet a;ship x " + corners[k] + " sail 9;");
            y.setWind((k + 4) % 8, 9);
            int at = y.course(0, 0);
            Sheets.due("off the sheet at " + corners[k], y.course(0, 6), at);
            Sheets.due("no way there", y.after(0, 8), 0);
        }
    }

    private static void strikes() {
        int[] hurts = {1, 1, 3, 2, 2};
        for (int heading = 0; heading < 8; heading++) {
            FleetSheet x = after("sheet 9 9;wind 0 9;fleet a;ship x 4 3 4 mass 7 sail 9 hull 99;"
                + "fleet b;ship y 4 4 " + heading + " mass 5 hull 99;", "x ahhhhh;", "y hhhhhh;");
            int angle = Math.min(Math.abs(heading - 4), 8 - Math.abs(heading - 4));
            ramDue(x, 0, 0, 0, 1, 2, 7 * hurts[angle]);
            Sheets.due("one ram", x.count(7), 1);
            shipDue(x, 0, 4, 3, 4, 97, 7, 9, 1, 0, 4);
            shipDue(x, 1, 4, 4, heading, 99 - 7 * hurts[angle], 5, 5, 1, 0, 4);
        }
        FleetSheet back = after("sheet 9 9;wind 0 9;fleet a;ship y 4 4 0 mass 9 hull 99;ship x 4 3 4 mass 1 sail 9 hull 99;",
            "x ahhhhh;y hhhhhh;");
        ramDue(back, 0, 0, 0, 1, 2, 4);
        FleetSheet way = Sheets.of("sheet 9 9;wind 1 9;fleet a;ship x 4 3 4 sail 9;fleet b;ship y 4 4 2 sail 9;");
        Sheets.write(way, 1, "y hhhhhh;");
        way.setWind(0, 9);
        Sheets.write(way, 0, "x haaaaa;");
        Sheets.due("they meet", way.meet(0, 1), 1);
    }

    private static void oneGoal() {
        String sheet = "sheet 9 9;wind 0 9;fleet a;ship x 3 4 2 sail 9 mass %;fleet b;ship y 5 4 6 sail 9 mass 4;";
        FleetSheet lower = after(sheet.replace('%', '4'), "x ahhhhh;", "y ahhhhh;");
        ramDue(lower, 0, 0, 0, 1, 10, 10);
        shipDue(lower, 0, 4, 4, 2, 10, 4, 9, 1, 0, 4);
        shipDue(lower, 1, 5, 4, 6, 10, 4, 9, 1, 0, 4);
        FleetSheet heavier = after(sheet.replace('%', '3'), "x ahhhhh;", "y ahhhhh;");
        ramDue(heavier, 0, 0, 0, 1, 10, 7);
        shipDue(heavier, 0, 3, 4, 2, 10, 3, 9, 1, 0, 4);
        shipDue(heavier, 1, 4, 4, 6, 13, 4, 9, 1, 0, 4);
        Sheets.due("one ram", heavier.count(7), 1);
    }

    private static void swap() {
        FleetSheet x = after("sheet 9 9;wind 0 9;fleet a;ship x 3 4 2 sail 9 mass 5;fleet b;ship y 4 4 6 sail 9 mass 2;",
            "x ahhhhh;", "y ahhhhh;");
        ramDue(x, 0, 0, 0, 1, 5, 12);
        shipDue(x, 0, 3, 4, 2, 15, 5, 9, 1, 0, 4);
        shipDue(x, 1, 4, 4, 6, 8, 2, 9, 1, 0, 4);
        FleetSheet cross = after("sheet 9 9;wind 0 9;fleet a;ship x 3 4 3 sail 9;fleet b;ship y 4 4 5 sail 9;",
            "x ahhhhh;", "y ahhhhh;");
        Sheets.due("crossing is no ram", cross.count(7), 0);
        Sheets.due("x", cross.at(4, 5), 0);
        Sheets.due("y", cross.at(3, 5), 1);
        FleetSheet behind = after("sheet 9 9;wind 0 9;fleet a;ship x 3 4 2 sail 9;fleet b;ship y 4 4 2 sail 9;",
            "x ahhhhh;", "y ahhhhh;");
        Sheets.due("one behind the other is no ram", behind.count(7), 0);
        Sheets.due("x goes where y was", behind.at(4, 4), 0);
    }

    private static void chain() {
        FleetSheet x = after("sheet 9 9;wind 0 9;fleet a;ship x 2 4 2 sail 9;ship y 3 4 2 sail 9;ship z 4 4 2 sail 9;"
            + "ship w 5 4 0;", "x ahhhhh;y ahhhhh;z ahhhhh;w hhhhhh;");
        Sheets.due("three rams", x.count(7), 3);
        ramDue(x, 0, 0, 2, 3, 1, 9);
        ramDue(x, 1, 0, 1, 2, 1, 3);
        ramDue(x, 2, 0, 0, 1, 1, 3);
        Sheets.due("nobody went", x.at(2, 4) * 100 + x.at(3, 4) * 10 + x.at(4, 4), 12);
        Sheets.due("hull of y", x.ship(1, 4), 16);
        FleetSheet edge = after("sheet 9 9;wind 0 9;fleet a;ship x 7 4 2 sail 9;ship y 8 4 2 sail 9;", "x ahhhhh;y ahhhhh;");
        ramDue(edge, 0, 0, 0, 1, 1, 3);
    }

    /** Three ships go to one cell: the pair of the lower numbers rams first, then its winner and the third one. */
    private static void order() {
        FleetSheet x = after("sheet 9 9;wind 0 9;fleet a;ship x 3 4 2 sail 9 mass 2;ship y 5 4 6 sail 9 mass 3;"
            + "ship z 4 3 4 sail 9 mass 1;ship w 4 4 4 sail 9 mass 1;", "x ahhhhh;y ahhhhh;z ahhhhh;w ahhhhh;");
        Sheets.due("two rams", x.count(7), 2);
        ramDue(x, 0, 0, 0, 1, 7, 5);
        ramDue(x, 1, 0, 1, 2, 3, 10);
        Sheets.due("the heaviest has the cell", x.at(4, 4), 1);
        Sheets.due("no way left", x.ship(1, 8), 0);
        Sheets.due("w went", x.at(4, 5), 3);
        FleetSheet again = after("sheet 9 9;wind 0 9;fleet a;ship x 4 4 0 hull 99;ship y 4 3 4 sail 9 mass 1;"
            + "ship z 3 4 2 sail 9 mass 1;", "x hhhhhh;y ahhhhh;z ahhhhh;");
        Sheets.due("the first pair first", again.ram(0, 2), 1);
        Sheets.due("then the other", again.ram(1, 2), 2);
        Sheets.due("y and z do not go any more", again.count(7), 2);
    }

    private static void points() {
        FleetSheet x = after("sheet 9 9;wind 0 9;fleet a;ship x 3 4 2 sail 9 mass 9 hull 5;"
            + "fleet b;ship y 5 4 6 sail 9 mass 9 hull 5;fleet c;ship z 9 9 0;".replace("9 9 0", "8 8 0"),
            "x ahhhhh;", "y ahhhhh;");
        Sheets.due("both sink", x.count(9), 1);
        Sheets.due("points of a", x.fleet(0, 1), 9);
        Sheets.due("points of b", x.fleet(1, 1), 9);
        Sheets.due("points of c", x.fleet(2, 1), 0);
        FleetSheet own = after("sheet 9 9;wind 0 9;fleet a;ship x 3 4 2 sail 9 mass 9;ship y 4 4 0 hull 1 mass 4;"
            + "ship q 5 4 6 sail 9 mass 2;fleet b;ship z 4 3 4 sail 9 mass 9;", "x ahhhhh;y hhhhhh;q ahhhhh;", "z ahhhhh;");
        Sheets.due("three rams", own.count(7), 3);
        Sheets.due("y is sunk", own.ship(1, 4), 0);
        Sheets.due("in turn 0", own.ship(1, 10), 0);
        Sheets.due("no points for one's own ship", own.fleet(0, 1), 0);
        Sheets.due("points of the other", own.fleet(1, 1), 4);
        FleetSheet once = after("sheet 9 9;wind 0 9;fleet a;ship x 3 4 2 sail 9;ship w 5 4 6 sail 9;"
            + "fleet b;ship y 4 4 0 hull 1 mass 4;", "x ahhhhh;w ahhhhh;", "y hhhhhh;");
        Sheets.due("points once", once.fleet(0, 1), 4);
        FleetSheet self = after("sheet 9 9;wind 0 9;fleet a;ship x 3 4 2 sail 9 hull 1;fleet b;ship y 4 4 0 mass 9;",
            "x ahhhhh;", "y hhhhhh;");
        Sheets.due("x sinks by its own strike", self.ship(0, 4), 0);
        Sheets.due("y did not strike", self.fleet(1, 1), 0);
        FleetSheet earlier = after("sheet 9 9;wind 0 9;fleet a;ship x 3 4 2 sail 9 mass 1;fleet b;ship y 4 4 0 hull 5 mass 4;"
            + "fleet c;ship z 4 2 4 sail 9 mass 9;", "x ahhhhh;", "y hhhhhh;", "z aahhhh;");
        Sheets.due("y is sunk later", earlier.ship(1, 4), 0);
        Sheets.due("who struck in an earlier pulse has none", earlier.fleet(0, 1), 0);
        Sheets.due("who struck in this pulse has them", earlier.fleet(2, 1), 4);
        Sheets.due("the loss is told whole", earlier.ram(1, 3), 18);
    }

    private static void manyRams() {
        StringBuilder t = new StringBuilder("sheet 12 4;wind 0 9;fleet a;");
        for (int i = 0; i < 6; i++) {
            t.append("ship ").append((char) ('a' + i)).append(' ').append(i).append(" 1 4 hull 99 mass 1 sail 9;");
            t.append("ship ").append((char) ('m' + i)).append(' ').append(i).append(" 2 0 hull 99 mass 1;");
        }
        FleetSheet x = Sheets.of(t.toString());
        x.seal(0, 0);
        Sheets.due("36 rams", x.run(), 36);
        Sheets.due("30 are kept", x.count(7), 30);
        ramDue(x, 29, 4, 10, 11, 0, 2);
        Sheets.dueIndex("no 31st one", () -> x.ram(30, 0));
        Sheets.due("all count for meet", x.meet(0, 1), 0);
    }

    private static void wind() {
        FleetSheet x = Sheets.of("sheet 9 9;wind 4 3;shift 1 2 7;shift 3 0 0;fleet a;");
        long[] want = {43, 27, 27, 0, 0};
        for (int turn = 0; turn < 5; turn++) {
            x.run();
            Sheets.due("the wind behind turn " + turn, 10 * x.count(5) + x.count(6), want[turn]);
        }
        FleetSheet y = Sheets.of("sheet 9 9;wind 4 9;shift 0 0 9;fleet a;ship x 4 4 4 sail 9;");
        y.setWind(2, 2);
        Sheets.sealAllAndRun(y);
        Sheets.due("the shift is stronger than setWind", y.ship(0, 2), 8);
    }

    private static void beginning() {
        FleetSheet x = after("sheet 9 9;fleet a;ship x 3 4 2;fleet b;", "x lhhhrr;");
        Sheets.due("all ahead", x.fleet(0, 4), 0);
        Sheets.due("nobody has sealed", x.fleet(0, 3) + x.fleet(1, 3), 0);
        Sheets.due("no seal", x.sealOf(1, 0), FleetSheet.NONE);
        Sheets.due("number of the turn", x.count(4), 1);
    }

    /** More calls than the document asks of an object, but the bound of the turns is in it. */
    private static void lastTurn() {
        FleetSheet x = Sheets.of("sheet 9 9;wind 0 0;shift 999 0 9;fleet a;ship x 4 0 4 sail 9;");
        for (int turn = 0; turn < 999; turn++) {
            Sheets.sealAllAndRun(x);
        }
        Sheets.due("calm until then", x.ship(0, 2), 0);
        Sheets.sealAllAndRun(x);
        Sheets.due("the shift of turn 999", x.ship(0, 2), 6);
        Sheets.due("1000 turns", x.count(4), 1000);
        x.seal(0, 0);
        Sheets.dueState("no more turns", () -> x.run());
        Sheets.due("what one more would bring", x.after(0, 2), 8);
        Sheets.due("its log", x.logged(990, 0, 0), 1);
        Sheets.dueIndex("no more", () -> x.logged(989, 0, 0));
    }

    private static void refusals() {
        FleetSheet x = Sheets.of("sheet 9 9;fleet a;ship x 3 4 2;fleet b;ship y 8 8 0;fleet c;");
        Sheets.dueState("nobody has sealed", () -> x.run());
        x.seal(1, 0);
        Sheets.dueState("the first has not sealed", () -> x.run());
        x.undo();
        x.seal(0, 0);
        Sheets.dueState("one has not sealed", () -> x.run());
        Sheets.due("nothing changed", x.count(4), 0);
        x.seal(1, 0);
        Sheets.due("one without ships need not seal", x.run(), 0);
        FleetSheet none = new FleetSheet();
        Sheets.due("no ships at all", none.run(), 0);
        lastTurn();
    }
}
