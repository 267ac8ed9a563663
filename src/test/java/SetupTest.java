/** Promises 1 to 13: a new object, append, load, errorPosition, count .. ram. */
public final class SetupTest {
    private static final String TWO = "sheet 10 8;wind 2 6;shift 3 4 1;"
        + "fleet red;ship x 2 5 4 hull 30 mass 5 sail 4 stiff 2;ship y 3 5 0;"
        + "fleet blue;ship z 9 7 7;";

    public static void main(String[] args) {
        newObject();
        append();
        load();
        errorPosition();
        count();
        ship();
        fleet();
        at();
        order();
        gain();
        sees();
        shift();
        ram();
        Sheets.finish();
    }

    private static void newObject() {
        FleetSheet x = new FleetSheet();
        Sheets.due("1 columns", x.count(0), 10);
        Sheets.due("1 rows", x.count(1), 10);
        Sheets.due("1 fleets", x.count(2), 1);
        Sheets.due("1 ships", x.count(3), 0);
        Sheets.due("1 turn", x.count(4), 0);
        Sheets.due("1 direction", x.count(5), 0);
        Sheets.due("1 force", x.count(6), 5);
        Sheets.due("1 rams", x.count(7), 0);
        Sheets.due("1 log", x.count(8), 0);
        Sheets.due("1 empty buffer", x.append(0, 0, 0, 0, 0), 0);
        Sheets.due("1 nothing written", x.writeShips(), 0);
        Sheets.due("1 not sealed", x.sealOf(0, 0), FleetSheet.NONE);
        Sheets.dueState("1 nothing saved in 0", () -> x.restore(0));
        Sheets.dueState("1 nothing saved in 1", () -> x.restore(1));
        Sheets.dueState("1 nothing to undo", () -> x.undo());
    }

    private static void append() {
        FleetSheet x = new FleetSheet();
        Sheets.due("2 zeros are left out", x.append(0x00730068, 0, 0x65000000, 0, 0x00000065), 4);
        Sheets.due("2 order of the bytes", x.append(0x74203420, 0x343b666c, 0x65657420, 0x613b0000, 0), 18);
        Sheets.due("2 they make a text", x.load(), 0);
        Sheets.due("2 columns", x.count(0), 4);
        for (int i = 1; i <= 29; i++) {
            Sheets.due("2 fills", x.append(-1, -1, -1, -1, -1), 20 * i);
        }
        Sheets.due("2 up to 599", x.append(-1, -1, -1, -1, 0x01010100), 599);
        Sheets.dueState("2 601", () -> x.append(0x01010000, 0, 0, 0, 0));
        Sheets.due("2 changes nothing then", x.append(0, 0, 0, 0, 0), 599);
        Sheets.due("2 the 600th", x.append(0, 0, 0, 0, 1), 600);
        for (int which = 0; which < 5; which++) {
            int k = which;
            Sheets.dueState("2 the 601st", () -> x.append(k == 0 ? 1 : 0, k == 1 ? 256 : 0, k == 2 ? 1 : 0, k == 3 ? 65536 : 0, k == 4 ? -1 << 24 : 0));
        }
        Sheets.due("2 nothing more", x.append(0, 0, 0, 0, 0), 600);
        Sheets.due("2 bytes over 127 are no letters", x.load(), FleetSheet.SYNTAX_ERROR);
    }

    private static void load() {
        FleetSheet x = Sheets.of(TWO);
        Sheets.due("3 ships", x.count(3), 3);
        Sheets.due("3 buffer is empty", x.append(0, 0, 0, 0, 0), 0);
        Sheets.sealAllAndRun(x);
        Sheets.due("3 error", Sheets.load(x, "sheet 10 10"), FleetSheet.SYNTAX_ERROR);
        Sheets.due("3 buffer is empty behind an error", x.append(0, 0, 0, 0, 0), 0);
        Sheets.due("3 the sheet stays", x.count(1), 8);
        Sheets.due("3 the log stays", x.count(8), 1);
        FleetSheet y = Sheets.of("sheet 10 10;fleet a;ship x 2 5 4;fleet b;ship y 2 8 0 mass 5 hull 9;");
        Sheets.sealAllAndRun(y);
        Sheets.due("3 points ahead", y.fleet(0, 1), 5);
        Sheets.due("3 rams ahead", y.count(7), 2);
        Sheets.due("3 loads", Sheets.load(y, "sheet 9 10;fleet a;ship q 0 0 0;fleet b;ship r 1 1 1;"), 2);
        Sheets.due("3 no rams", y.count(7), 0);
        Sheets.due("3 no turns", y.count(8), 0);
        Sheets.due("3 turn 0", y.count(4), 0);
        Sheets.due("3 no points", y.fleet(0, 1), 0);
        Sheets.due("3 not sunk", y.ship(1, 10), FleetSheet.NONE);
        Sheets.dueIndex("3 no log", () -> y.logged(0, 0, 0));
        y.seal(0, 1);
        Sheets.load(y, "sheet 9 10;fleet a;ship q 0 0 0;");
        Sheets.due("3 not sealed", y.fleet(0, 3), 0);
        Sheets.due("3 wind of the text", y.count(6), 5);
        loadLeavesNothing();
        smallerSheet();
    }

    /** A text that tells little: what the sheet ahead of it had must not come through. */
    private static void loadLeavesNothing() {
        FleetSheet x = Sheets.of("sheet 10 10;wind 0 5;shift 9 3 3;shift 1 6 6;fleet a;ship x 2 5 4;"
            + "fleet b;ship y 2 8 0 mass 5 hull 9;fleet c;ship z 9 0 1 hull 7 mass 7 sail 7 stiff 3;");
        Sheets.write(x, 2, "z lhr;");
        Sheets.sealAllAndRun(x);
        x.setWind(6, 6);
        Sheets.write(x, 2, "z hhr;");
        x.seal(2, 3);
        x.after(0, 0);
        Sheets.load(x, "sheet 9 9;fleet q;ship k 1 1 1;ship l 2 2 2;fleet r;fleet s;ship m 3 3 3;");
        Sheets.due("3 direction", x.count(5), 0);
        Sheets.due("3 force", x.count(6), 5);
        Sheets.due("3 turn", x.count(4), 0);
        Sheets.due("3 rams", x.count(7), 0);
        FleetSheet duel = Sheets.of("sheet 10 10;fleet a;ship x 2 5 4;fleet b;ship y 2 8 0 mass 5 hull 9;");
        Sheets.due("3 sinks", duel.after(1, 4), 0);
        Sheets.load(duel, "sheet 9 9;fleet a;");
        Sheets.due("3 no rams that would be", duel.count(7), 0);
        Sheets.due("3 shifts", x.shift(9, 0) + x.shift(1, 1), -2);
        int[] plain = {20, 3, 5, 1, 0, 4, FleetSheet.NONE};
        for (int ship = 0; ship < 3; ship++) {
            for (int what = 4; what <= 10; what++) {
                Sheets.due("3 ship " + ship + ", " + what, x.ship(ship, what), plain[what - 4]);
            }
        }
        for (int fleet = 0; fleet < 3; fleet++) {
            Sheets.due("3 points", x.fleet(fleet, 1), 0);
            Sheets.due("3 sealed", x.fleet(fleet, 3), 0);
            Sheets.due("3 letters", x.fleet(fleet, 4), 0);
        }
    }

    /** A smaller sheet behind a larger one: ships of the larger one are not counted any more. */
    private static void smallerSheet() {
        FleetSheet x = Sheets.of("sheet 10 10;fleet a;ship x 2 5 4 hull 9;ship y 3 5 4 hull 50;fleet b;ship z 4 5 4 hull 60;ship w 8 8 0;");
        Sheets.write(x, 0, "x lrh;y hhhhhh;");
        Sheets.write(x, 1, "z hhhhhh;w hhh;");
        Sheets.load(x, "sheet 10 10;fleet a;ship p 0 0 0 hull 3;fleet b;");
        Sheets.due("3 ships", x.count(3), 1);
        Sheets.due("3 ships that are not sunk", x.count(9), 1);
        Sheets.due("3 the only fleet", x.count(10), 0);
        Sheets.due("3 its ships", x.fleet(0, 0), 1);
        Sheets.due("3 its hull", x.fleet(0, 2), 3);
        Sheets.due("3 its letters", x.fleet(0, 4), 0);
        Sheets.due("3 no ships of the other", x.fleet(1, 0) + x.fleet(1, 2) + x.fleet(1, 4), 0);
        Sheets.due("3 nobody sees it", x.sees(1, 0), false);
        Sheets.due("3 nobody is there", x.at(3, 5), FleetSheet.NONE);
        Sheets.due("3 seal of its letters alone", x.seal(1, 5), 5);
        Sheets.dueIndex("3 no second ship", () -> x.ship(1, 0));
        Sheets.dueText("3 written", Sheets.ships(x), "p=0,0N/3");
        x.seal(0, 1);
        Sheets.due("3 a turn", x.run(), 0);
        Sheets.due("3 a name that was told ahead of it",
            Sheets.load(x, "sheet 10 10;fleet b;ship z 1 1 1;ship x 2 5 2;fleet a;ship y 3 5 3;"), 3);
        Sheets.due("23 of the new ones", Sheets.write(x, 0, "w a;"), FleetSheet.UNKNOWN);
        FleetSheet y = Sheets.of("sheet 10 10;fleet a;ship x 0 0 0;fleet b;ship y 1 1 0;");
        Sheets.load(y, "sheet 10 10;fleet a;ship p 0 0 0;fleet b;");
        Sheets.due("3 no lookout is left", y.sees(1, 0), false);
        FleetSheet z = Sheets.of("sheet 30 9;wind 2 9;fleet a;ship x 29 4 6 sail 9 stiff 0;");
        Sheets.write(z, 0, "x aaaalr;");
        Sheets.due("3 way that would be", z.after(0, 8), 90);
        Sheets.due("3 pulses that would be", z.after(0, 9), 0);
        Sheets.load(z, "sheet 30 9;fleet a;ship q 0 0 0;");
        Sheets.due("3 no way yet", z.ship(0, 8), 0);
        Sheets.due("3 four pulses", z.ship(0, 9), 4);
    }

    private static void errorPosition() {
        FleetSheet x = new FleetSheet();
        Sheets.due("4 none at first", x.errorPosition(), FleetSheet.NONE);
        Sheets.load(x, "sheet 10 10;fleet a;ship");
        Sheets.due("4 of load", x.errorPosition(), 24);
        Sheets.load(x, "sheet 10 10;fleet a;ship x 0 0 0;");
        Sheets.due("4 none behind a right text", x.errorPosition(), FleetSheet.NONE);
        Sheets.write(x, 0, "x aaz;");
        Sheets.due("4 of write", x.errorPosition(), 4);
        x.seal(0, 0);
        Sheets.dueState("4 sealed", () -> x.write(0));
        Sheets.due("4 an exception does not count", x.errorPosition(), 4);
        x.undo();
        Sheets.due("4 undo leaves it", x.errorPosition(), 4);
        x.write(0);
        Sheets.due("4 none behind right orders", x.errorPosition(), FleetSheet.NONE);
    }

    private static void count() {
        FleetSheet x = Sheets.of(TWO);
        long[] want = {10, 8, 2, 3, 0, 2, 6, 0, 0, 3, FleetSheet.NONE};
        for (int what = 0; what < want.length; what++) {
            Sheets.due("5 count " + what, x.count(what), want[what]);
        }
        Sheets.dueArgument("5 count -1", () -> x.count(-1));
        Sheets.dueArgument("5 count 11", () -> x.count(11));
        for (int turn = 1; turn <= 12; turn++) {
            Sheets.sealAllAndRun(x);
            Sheets.due("5 turn", x.count(4), turn);
            Sheets.due("5 log", x.count(8), Math.min(10, turn));
        }
        FleetSheet y = Sheets.of("sheet 9 9;fleet a;fleet b;ship x 0 0 0;fleet c;");
        Sheets.due("5 the only fleet", y.count(10), 1);
        FleetSheet z = Sheets.of("sheet 10 10;fleet a;ship x 2 5 4;fleet b;ship y 2 8 0 mass 5 hull 9;");
        Sheets.due("5 several fleets", z.count(10), FleetSheet.NONE);
        Sheets.sealAllAndRun(z);
        Sheets.due("5 sunk ones, too", z.count(3), 2);
        Sheets.due("5 not sunk", z.count(9), 1);
        Sheets.due("5 only fleet left", z.count(10), 0);
        Sheets.due("5 rams", z.count(7), 2);
    }

    private static void ship() {
        FleetSheet x = Sheets.of(TWO);
        long[] first = {0, 2, 5, 4, 30, 5, 4, 2, 0, 4, FleetSheet.NONE};
        long[] last = {1, 9, 7, 7, 20, 3, 5, 1, 0, 4, FleetSheet.NONE};
        for (int what = 0; what < first.length; what++) {
            Sheets.due("6 ship 0, " + what, x.ship(0, what), first[what]);
            Sheets.due("6 ship 2, " + what, x.ship(2, what), last[what]);
        }
        Sheets.dueIndex("6 ship -1", () -> x.ship(-1, 0));
        Sheets.dueIndex("6 ship 3", () -> x.ship(3, 99));
        Sheets.dueArgument("6 what -1", () -> x.ship(0, -1));
        Sheets.dueArgument("6 what 11", () -> x.ship(2, 11));
        FleetSheet y = Sheets.of("sheet 10 10;fleet a;ship x 2 5 4;fleet b;ship y 2 8 0 mass 5 hull 9;");
        Sheets.sealAllAndRun(y);
        long[] sunk = {1, FleetSheet.NONE, FleetSheet.NONE, 0, 0, 5, 5, 1, 0, 4, 0};
        for (int what = 0; what < sunk.length; what++) {
            Sheets.due("6 a sunk one, " + what, y.ship(1, what), sunk[what]);
        }
    }

    private static void fleet() {
        FleetSheet x = Sheets.of(TWO);
        Sheets.due("7 ships", x.fleet(0, 0), 3);
        Sheets.due("7 ships of the other", x.fleet(1, 0), 4);
        Sheets.due("7 points", x.fleet(0, 1), 0);
        Sheets.due("7 hulls", x.fleet(0, 2), 50);
        Sheets.due("7 not sealed", x.fleet(0, 3), 0);
        Sheets.due("7 no letters", x.fleet(0, 4), 0);
        Sheets.write(x, 0, "y lrhhal; x aaaaah;");
        Sheets.due("7 letters", x.fleet(0, 4), 6);
        x.seal(0, 1);
        Sheets.due("7 sealed", x.fleet(0, 3), 1);
        Sheets.due("7 the other not", x.fleet(1, 3), 0);
        Sheets.dueIndex("7 fleet -1", () -> x.fleet(-1, 0));
        Sheets.dueIndex("7 fleet 2", () -> x.fleet(2, 77));
        Sheets.dueArgument("7 what -1", () -> x.fleet(0, -1));
        Sheets.dueArgument("7 what 5", () -> x.fleet(1, 5));
        FleetSheet y = Sheets.of("sheet 10 10;fleet a;ship x 2 5 4;fleet b;ship y 2 8 0 mass 5 hull 9;ship z 9 9 0;");
        Sheets.sealAllAndRun(y);
        Sheets.due("7 sunk ones do not count", y.fleet(1, 0), 4);
        Sheets.due("7 hull left", y.fleet(1, 2), 20);
        Sheets.due("7 its mass as points", y.fleet(0, 1), 5);
    }

    private static void at() {
        FleetSheet x = Sheets.of(TWO);
        Sheets.due("8 ship 0", x.at(2, 5), 0);
        Sheets.due("8 ship 2", x.at(9, 7), 2);
        Sheets.due("8 none", x.at(5, 2), FleetSheet.NONE);
        Sheets.due("8 the corner", x.at(0, 0), FleetSheet.NONE);
        Sheets.dueIndex("8 column 10", () -> x.at(10, 0));
        Sheets.dueIndex("8 row 8", () -> x.at(0, 8));
        Sheets.dueIndex("8 column -1", () -> x.at(-1, 0));
        Sheets.dueIndex("8 row -1", () -> x.at(0, -1));
        FleetSheet y = Sheets.of("sheet 10 10;fleet a;ship x 2 5 4;fleet b;ship y 2 8 0 mass 5 hull 9;");
        Sheets.sealAllAndRun(y);
        Sheets.due("8 none where it sank", y.at(2, 8), FleetSheet.NONE);
        Sheets.dueIndex("8 sunk ones are in no cell", () -> y.at(-1, -1));
    }

    private static void order() {
        FleetSheet x = Sheets.of(TWO);
        for (int pulse = 0; pulse < 6; pulse++) {
            Sheets.due("9 ahead at first", x.order(1, pulse), 1);
        }
        Sheets.write(x, 0, "y alrhlr;");
        long[] want = {1, 2, 3, 4, 2, 3};
        for (int pulse = 0; pulse < 6; pulse++) {
            Sheets.due("9 pulse " + pulse, x.order(1, pulse), want[pulse]);
            Sheets.due("9 of another one " + pulse, x.order(0, pulse), 1);
        }
        Sheets.dueIndex("9 ship 3", () -> x.order(3, 0));
        Sheets.dueIndex("9 ship -1", () -> x.order(-1, 0));
        Sheets.dueIndex("9 pulse 6", () -> x.order(0, 6));
        Sheets.dueIndex("9 pulse -1", () -> x.order(0, -1));
        Sheets.sealAllAndRun(x);
        Sheets.due("9 ahead in the next turn", x.order(1, 1), 1);
    }

    private static void gain() {
        FleetSheet x = Sheets.of(TWO);
        long[] factors = {3, 1, 0, 1, 3, 4, 3, 4};
        for (int heading = 0; heading < 8; heading++) {
            Sheets.due("10 heading " + heading, x.gain(0, heading), 4 * 6 * factors[heading]);
        }
        x.setWind(2, 9);
        Sheets.due("10 the wind as it is now", x.gain(0, 7), 4 * 9 * 4);
        FleetSheet y = Sheets.of("sheet 9 9;wind 0 9;fleet a;ship x 0 0 0 sail 9;");
        Sheets.due("10 over 180", y.gain(0, 3), 324);
        Sheets.dueIndex("10 ship 3", () -> x.gain(3, 9));
        Sheets.dueIndex("10 ship -1", () -> x.gain(-1, 0));
        Sheets.dueArgument("10 heading 8", () -> x.gain(0, 8));
        Sheets.dueArgument("10 heading -1", () -> x.gain(0, -1));
    }

    private static void sees() {
        FleetSheet x = Sheets.of("sheet 30 30;fleet a;ship a 10 10 0;ship b 29 29 0;"
            + "fleet b;ship c 15 5 0;ship d 16 10 0;ship e 10 16 0;fleet c;fleet d;ship f 5 15 0;");
        Sheets.due("11 its own", x.sees(0, 1), true);
        Sheets.due("11 the corner of its sight", x.sees(0, 2), true);
        Sheets.due("11 the other corner", x.sees(0, 5), true);
        Sheets.due("11 a column too far", x.sees(0, 3), false);
        Sheets.due("11 a row too far", x.sees(0, 4), false);
        Sheets.due("11 a fleet without ships", x.sees(2, 0), false);
        Sheets.due("11 back", x.sees(1, 0), true);
        Sheets.due("11 too far from all", x.sees(1, 1), false);
        Sheets.dueIndex("11 fleet 4", () -> x.sees(4, 0));
        Sheets.dueIndex("11 fleet -1", () -> x.sees(-1, 0));
        Sheets.dueIndex("11 ship 6", () -> x.sees(0, 6));
        Sheets.dueIndex("11 ship -1", () -> x.sees(0, -1));
        FleetSheet y = Sheets.of("sheet 10 10;fleet a;ship x 2 5 4;fleet b;ship y 2 8 0 mass 5 hull 9;");
        Sheets.sealAllAndRun(y);
        Sheets.due("11 a sunk one of its own", y.sees(1, 1), true);
        Sheets.due("11 a sunk one of others", y.sees(0, 1), false);
        Sheets.due("11 by a sunk one", y.sees(1, 0), false);
        FleetSheet z = Sheets.of("sheet 10 10;wind 0 9;fleet a;ship b 0 4 4 sail 9 mass 9;ship c 3 0 2;"
            + "fleet b;ship d 0 5 4 hull 1 sail 1;ship e 9 9 4;");
        Sheets.write(z, 0, "b ahhhhh; c hhhhhh;");
        Sheets.write(z, 1, "d hhhhhh; e hhhhhh;");
        Sheets.sealAllAndRun(z);
        Sheets.due("11 d is sunk", z.ship(2, 4), 0);
        Sheets.due("11 a sunk one near the corner", z.sees(0, 2), false);
        Sheets.due("11 no sight from where it sank", z.sees(1, 1), false);
    }

    private static void shift() {
        FleetSheet x = Sheets.of("sheet 9 9;shift 0 1 2;shift 999 7 9;shift 5 0 0;fleet a;");
        Sheets.due("12 direction", x.shift(0, 0), 1);
        Sheets.due("12 force", x.shift(0, 1), 2);
        Sheets.due("12 direction of 999", x.shift(999, 0), 7);
        Sheets.due("12 force of 999", x.shift(999, 1), 9);
        Sheets.due("12 zeros", x.shift(5, 0) + x.shift(5, 1), 0);
        Sheets.due("12 none", x.shift(1, 0), FleetSheet.NONE);
        Sheets.due("12 none", x.shift(998, 1), FleetSheet.NONE);
        Sheets.dueArgument("12 turn -1", () -> x.shift(-1, 0));
        Sheets.dueArgument("12 turn 1000", () -> x.shift(1000, 0));
        Sheets.dueArgument("12 what 2", () -> x.shift(0, 2));
        Sheets.dueArgument("12 what -1", () -> x.shift(0, -1));
        Sheets.dueArgument("12 what 2 without a shift", () -> x.shift(1, 2));
        x.run();
        Sheets.due("12 stays told", x.shift(0, 1), 2);
    }

    private static void ram() {
        FleetSheet x = Sheets.of("sheet 10 10;fleet a;ship x 2 5 4;fleet b;ship y 2 8 0 mass 5 hull 9;");
        Sheets.sealAllAndRun(x);
        long[][] want = {{3, 0, 1, 2, 6}, {5, 0, 1, 2, 6}};
        for (int ram = 0; ram < 2; ram++) {
            for (int what = 0; what < 5; what++) {
                Sheets.due("13 ram " + ram + ", " + what, x.ram(ram, what), want[ram][what]);
            }
        }
        Sheets.dueIndex("13 ram 2", () -> x.ram(2, 9));
        Sheets.dueIndex("13 ram -1", () -> x.ram(-1, 0));
        Sheets.dueArgument("13 what 5", () -> x.ram(0, 5));
        Sheets.dueArgument("13 what -1", () -> x.ram(1, -1));
        Sheets.sealAllAndRun(x);
        Sheets.dueIndex("13 of the latest turn alone", () -> x.ram(0, 0));
    }
}
