/** Promises 1 to 26, 30 and 31 at the bounds that they name, where the tests of each promise leave one out. */
public final class PromiseBoundsTest {
    private static final String DUEL = "sheet 10 10;wind 0 5;fleet a;ship x 2 5 4;fleet b;ship y 2 8 0 mass 5 hull 9;";
    private static final String MELEE = "sheet 7 7;wind 1 8;shift 0 0 8;fleet a;ship p 1 1 3 sail 9;ship q 1 3 2 sail 7 stiff 0;"
        + "ship r 1 5 1 sail 9 mass 9 hull 7;fleet b;ship s 5 1 5 sail 8;ship t 5 3 6 sail 9 mass 5 hull 9;ship u 5 5 7 sail 6 stiff 3;"
        + "fleet c;ship v 3 3 4 hull 2;";
    private static final String[] PLANS = {"p aaaaaa;q lrlrlr;", "p rrrlll;q hahaha;r lllaaa;", "p hhhhhh;q rrrrrr;r ahahah;", "r raaall;"};

    public static void main(String[] args) {
        newObject();
        eachByteOfAppend();
        onlyFleet();
        letters();
        eachCell();
        allGains();
        sight();
        sealsAtTheirBounds();
        sealsSkipSunkShips();
        courseAlone();
        afterAsRun();
        meetAsRun();
        meetWithShift();
        sparesAsTried();
        bestWindAsTried();
        paces();
        runTellsAllRams();
        windBefore();
        shorterText();
        Sheets.finish();
    }

    private static void newObject() {
        FleetSheet x = new FleetSheet();
        Sheets.dueText("1 as by the text", Sheets.told(x), Sheets.told(Sheets.of("sheet 10 10;fleet a;")));
        Sheets.due("1 no ship is left", x.count(9), 0);
        Sheets.due("1 no only fleet", x.count(10), FleetSheet.NONE);
        Sheets.due("1 no error", x.errorPosition(), FleetSheet.NONE);
        Sheets.dueIndex("1 nothing written", () -> x.writtenByte(0));
        Sheets.dueIndex("1 no ship", () -> x.ship(0, 0));
        Sheets.dueIndex("1 no ram", () -> x.ram(0, 0));
        Sheets.dueIndex("1 no turn in the log", () -> x.sealOf(-1, 0));
        Sheets.due("1 ten columns and rows", x.at(9, 9), FleetSheet.NONE);
        Sheets.due("25 a sheet without ships runs", x.run(), 0);
        Sheets.due("14 nobody sealed", x.sealOf(0, 0), FleetSheet.NONE);
        Sheets.due("15 nobody sealed", x.check(0, 0, 0), false);
    }

    private static void eachByteOfAppend() {
        for (int k = 0; k < 20; k++) {
            int[] four = new int[5];
            four[k / 4] = 'b' << (24 - 8 * (k % 4));
            FleetSheet x = new FleetSheet();
            Sheets.feed(x, "sheet 10 10;fleet a;ship a");
            Sheets.due("2 byte " + k, x.append(four[0], four[1], four[2], four[3], four[4]), 27);
            Sheets.feed(x, " 1 1 1;");
            x.load();
            Sheets.dueText("2 byte " + k, Sheets.ships(x), "ab=1,1NE/20");
        }
        FleetSheet x = new FleetSheet();
        Sheets.feed(x, "sheet 10 10;fleet a;ship ");
        x.append(0x61626300, 0x64006500, 0x00666700, 0x00000000, 0x68002031);
        Sheets.feed(x, " 1 1;");
        x.load();
        Sheets.dueText("2 in order, zeros left out", Sheets.ships(x), "abcdefgh=1,1NE/20");
        FleetSheet y = new FleetSheet();
        for (int n = 1; n <= 300; n++) {
            Sheets.due("2 one byte", y.append(0, ' ' << 8, 0, 0, 0), n);
        }
    }

    private static void onlyFleet() {
        FleetSheet x = Sheets.of("sheet 9 9;wind 0 9;fleet e;fleet a;ship x 3 4 2 sail 9 mass 9 hull 1;fleet b;ship y 5 4 6 sail 9 mass 9 hull 1;");
        Sheets.due("5 two fleets", x.count(10), FleetSheet.NONE);
        Sheets.sealAllAndRun(x);
        Sheets.due("5 no ship that is not sunk", x.count(9), 0);
        Sheets.due("5 none", x.count(10), FleetSheet.NONE);
        Sheets.due("5 sunk ones are ships", x.count(3), 2);
        Sheets.due("25 no fleet needs to seal", x.run(), 0);
        Sheets.due("22 all sunk", (long) (8 * x.pace(1)), 0);
        Sheets.due("21 all sunk", x.bestWind(1), 0);
        Sheets.due("7 no ships", x.fleet(1, 0), 0);
        Sheets.due("7 no hull", x.fleet(1, 2), 0);
        Sheets.due("30 nothing to write", x.writeShips(), 0);
        Sheets.due("10 a sunk ship is one", x.gain(0, 3), 9 * 9 * 4);
        Sheets.due("11 its own fleet", x.sees(1, 0), true);
        Sheets.due("11 another fleet", x.sees(2, 0), false);
        FleetSheet last = Sheets.of("sheet 9 9;fleet a;fleet b;fleet c;fleet d;ship x 0 0 0;ship y 1 1 1;");
        Sheets.due("5 the last fleet", last.count(10), 3);
        Sheets.due("7 its ships", last.fleet(3, 0), 3);
        Sheets.due("7 no ships", last.fleet(0, 0) + last.fleet(0, 2) + last.fleet(0, 4), 0);
    }

    private static void letters() {
        FleetSheet x = Sheets.of("sheet 9 9;fleet a;ship x 0 0 0;ship y 1 1 1;fleet b;ship z 5 5 5;");
        String[] orders = {"x a;", "x l;", "x ar;", "x aah;", "x aaaaah;y l;", "x lrhlrh;", "x lrhlrh;y hhhhhh;", "y aaaaaa;"};
        int[] want = {0, 1, 1, 1, 2, 6, 12, 0};
        for (int k = 0; k < orders.length; k++) {
            Sheets.write(x, 0, orders[k]);
            Sheets.due("7 letters of " + orders[k], x.fleet(0, 4), want[k]);
            Sheets.due("7 of the other fleet", x.fleet(1, 4), 0);
        }
        Sheets.due("2 letters stay of others", x.order(2, 0), 1);
        Sheets.write(x, 1, "z rrrrrr;");
        Sheets.write(x, 0, "");
        Sheets.due("23 of this fleet alone", x.fleet(1, 4), 6);
    }

    private static void eachCell() {
        FleetSheet x = Sheets.of("sheet 5 4;fleet a;ship a 0 0 0;ship b 4 0 0;ship c 0 3 0;fleet b;ship d 4 3 0;ship e 2 1 0;ship f 1 2 0;");
        int[][] want = {{0, -1, -1, 2}, {-1, -1, 5, -1}, {-1, 4, -1, -1}, {-1, -1, -1, -1}, {1, -1, -1, 3}};
        for (int column = 0; column < 5; column++) {
            for (int row = 0; row < 4; row++) {
                Sheets.due("8 cell " + column + " " + row, x.at(column, row), want[column][row]);
            }
        }
        Sheets.dueIndex("8 column 5", () -> x.at(5, 3));
        Sheets.dueIndex("8 row 4", () -> x.at(3, 4));
    }

    private static void allGains() {
        int[] factors = {0, 1, 3, 4, 3, 4, 3, 1};
        FleetSheet x = Sheets.of("sheet 9 9;wind 0 1;shift 0 4 9;fleet a;ship x 0 0 5 sail 7;ship y 1 1 1 sail 1;");
        for (int from = 0; from < 8; from++) {
            x.setWind(from, 1 + from);
            for (int heading = 0; heading < 8; heading++) {
                Sheets.due("10 wind " + from + ", heading " + heading, x.gain(0, heading), 7 * (1 + from) * factors[(heading - from + 8) % 8]);
            }
        }
        x.setWind(0, 9);
        Sheets.due("10 sail 1", x.gain(1, 3), 36);
        x.setWind(4, 0);
        Sheets.due("10 no wind", x.gain(0, 0), 0);
    }

    private static void sight() {
        for (int column = 7; column <= 21; column++) {
            for (int row = 4; row <= 18; row++) {
                if (column == 14 && row == 11) {
                    continue;
                }
                FleetSheet x = Sheets.of("sheet 30 30;fleet a;ship x 14 11 0;fleet b;ship y " + column + " " + row + " 0;");
                boolean near = column >= 9 && column <= 19 && row >= 6 && row <= 16;
                Sheets.due("11 from 14 11 to " + column + " " + row, x.sees(0, 1), near);
                Sheets.due("11 and back", x.sees(1, 0), near);
                Sheets.due("11 its own", x.sees(1, 1), true);
            }
        }
    }

    private static int sealBy(int key, String letters) {
        long s = key;
        for (int i = 0; i < letters.length(); i++) {
            s = (31 * s + "alrh".indexOf(letters.charAt(i)) + 1) % 1000003;
        }
        return (int) s;
    }

    private static void sealsAtTheirBounds() {
        int[] ends = {0, 1, 999999, 1000000, 1000001, 1000002};
        int found = 0;
        for (int end : ends) {
            for (int key = 0; key <= 999999; key++) {
                if (sealBy(key, "aaaaaa") == end) {
                    found++;
                    FleetSheet x = Sheets.of("sheet 9 9;fleet a;ship x 0 0 0;");
                    Sheets.due("24 the seal " + end, x.seal(0, key), end);
                    Sheets.due("24 it has sealed by it", x.fleet(0, 3), 1);
                    int same = key;
                    Sheets.dueState("24 not again", () -> x.seal(0, same));
                    Sheets.due("25 it may run", x.run(), 0);
                    Sheets.due("14 the seal", x.sealOf(0, 0), end);
                    Sheets.due("15 its key", x.check(0, 0, key), true);
                    Sheets.due("15 the next key", x.check(0, 0, key + 1), false);
                    Sheets.due("15 a key that is none", x.check(0, 0, key + 1000003), false);
                    Sheets.due("15 a key that is none", x.check(0, 0, key - 1000003), false);
                }
            }
        }
        Sheets.due("24 each of them has a key", found, ends.length);
        FleetSheet none = new FleetSheet();
        Sheets.due("24 no ships: the key", none.seal(0, 999999), 999999);
        none.run();
        Sheets.due("15 no ships: the key", none.check(0, 0, 999999), true);
        Sheets.due("15 a key too great", none.check(0, 0, 1000000), false);
        none.seal(0, 0);
        none.run();
        Sheets.due("15 no ships: key 0", none.check(1, 0, 0), true);
        Sheets.due("15 no ships: key -1", none.check(1, 0, -1), false);
    }

    private static void sealsSkipSunkShips() {
        FleetSheet x = Sheets.of("sheet 9 9;wind 0 9;fleet a;ship p 0 0 0;fleet b;ship s 4 3 4 sail 9;"
            + "fleet c;ship q 4 4 0 hull 1;ship r 8 8 0;");
        Sheets.write(x, 2, "q hl;r rrr;");
        Sheets.due("24 all ships in order", x.seal(2, 12), sealBy(12, "hlaaaarrraaa"));
        x.seal(0, 1);
        Sheets.write(x, 1, "s ahhhhh;");
        x.seal(1, 1);
        x.run();
        Sheets.due("q is sunk", x.ship(2, 4), 0);
        Sheets.write(x, 2, "r lh;");
        Sheets.due("24 without the sunk one", x.seal(2, 12), sealBy(12, "lhaaaa"));
        Sheets.due("15 with it", x.check(0, 2, 12), true);
        x.seal(0, 1);
        x.seal(1, 1);
        x.run();
        Sheets.due("15 without it", x.check(1, 2, 12), true);
        Sheets.due("16 no letters", x.logged(1, 2, 0), 0);
        Sheets.due("16 letters", x.logged(1, 3, 1), 4);
        Sheets.due("16 letters of the turn in which it sank", x.logged(0, 2, 1), 2);
        Sheets.due("16 the rest of them", x.logged(0, 2, 5), 1);
    }

    private static void courseAlone() {
        FleetSheet x = Sheets.of("sheet 9 9;wind 0 9;fleet a;ship x 4 3 4 sail 9;ship y 4 4 0 hull 99;fleet b;ship z 4 5 2 hull 1;");
        Sheets.due("18 behind no pulse", x.course(0, 0), 403);
        Sheets.due("18 through all others", x.course(0, 6), 408);
        Sheets.due("18 of the one in the way", x.course(1, 6), 404);
        Sheets.due("18 the others are there still", x.at(4, 4), 1);
        Sheets.due("18 rams do not count", x.count(7), 0);
        FleetSheet big = Sheets.of("sheet 30 30;wind 7 9;fleet a;ship x 24 24 3 sail 9;ship y 29 29 3;");
        Sheets.due("18 the last cell", big.course(0, 5), 2929);
        Sheets.due("18 not off it", big.course(0, 6), 2929);
        big.setWind(3, 9);
        Sheets.due("18 against the wind", big.course(0, 6), 2424);
        FleetSheet shifted = Sheets.of("sheet 9 9;wind 0 9;shift 1 4 9;fleet a;ship x 4 4 4 sail 9;");
        Sheets.due("18 the shift of another turn", shifted.course(0, 1), 405);
        Sheets.write(shifted, 0, "x hhhhhh;");
        Sheets.sealAllAndRun(shifted);
        Sheets.due("18 the shift of this turn", shifted.course(0, 6), 404);
        Sheets.due("18 the wind is not shifted yet", shifted.count(5), 0);
    }

    private static FleetSheet melee(String plan) {
        FleetSheet x = Sheets.of(MELEE);
        if (Sheets.write(x, 0, plan) < 0) {
            throw new IllegalArgumentException("wrong orders in a test: " + plan);
        }
        return x;
    }

    private static void afterAsRun() {
        int rams = 0;
        for (String plan : PLANS) {
            FleetSheet x = melee(plan);
            for (int turn = 0; turn < 2; turn++) {
                int[] told = new int[77];
                for (int i = 0; i < told.length; i++) {
                    told[i] = x.after(i / 11, i % 11);
                }
                rams += Sheets.sealAllAndRun(x);
                for (int i = 0; i < told.length; i++) {
                    Sheets.due("17 as it was to be, ship " + i / 11 + ", " + i % 11, told[i], x.ship(i / 11, i % 11));
                }
            }
        }
        Sheets.due("there were rams", rams > 5, true);
    }

    private static void meetAsRun() {
        for (String plan : PLANS) {
            FleetSheet x = melee(plan);
            int[][] told = new int[7][7];
            for (int ship = 0; ship < 7; ship++) {
                for (int other = 0; other < 7; other++) {
                    told[ship][other] = x.meet(ship, other);
                }
            }
            Sheets.sealAllAndRun(x);
            for (int ram = x.count(7) - 1; ram >= 0; ram--) {
                int first = firstRam(x, x.ram(ram, 1), x.ram(ram, 2));
                Sheets.due("19 the first time", told[x.ram(ram, 1)][x.ram(ram, 2)], first);
                Sheets.due("19 the other way round", told[x.ram(ram, 2)][x.ram(ram, 1)], first);
            }
            for (int ship = 0; ship < 7; ship++) {
                Sheets.due("19 both are the same", told[ship][ship], FleetSheet.NONE);
                for (int other = ship + 1; other < 7; other++) {
                    Sheets.due("19 " + ship + " and " + other, told[ship][other], firstRam(x, ship, other));
                }
            }
        }
    }

    private static void meetWithShift() {
        FleetSheet x = Sheets.of(DUEL.replace("wind 0 5;", "wind 0 0;shift 0 0 5;shift 1 0 0;"));
        Sheets.due("19 with the shift of this turn", x.meet(0, 1), 3);
        FleetSheet y = Sheets.of(DUEL.replace("wind 0 5;", "wind 0 5;shift 0 0 0;"));
        Sheets.due("19 becalmed by it", y.meet(0, 1), FleetSheet.NONE);
        Sheets.due("17 becalmed by it", y.after(0, 2), 5);
        Sheets.sealAllAndRun(y);
        Sheets.due("5 it is the wind now", y.count(6), 0);
        y.setWind(0, 5);
        Sheets.due("19 the wind as set", y.meet(1, 0), 3);
        Sheets.sealAllAndRun(y);
        Sheets.due("19 a sunk ship meets nobody", y.meet(0, 1), FleetSheet.NONE);
    }

    private static int firstRam(FleetSheet x, int ship, int other) {
        for (int ram = 0; ram < x.count(7); ram++) {
            if (x.ram(ram, 1) == ship && x.ram(ram, 2) == other) {
                return x.ram(ram, 0);
            }
        }
        return FleetSheet.NONE;
    }

    /** What spares() should answer, found by writing the orders with each letter. */
    private static void sparesAsTried() {
        int[] found = new int[5];
        for (String plan : PLANS) {
            for (int ship = 0; ship < 3; ship++) {
                for (int pulse = 0; pulse < 6; pulse++) {
                    FleetSheet x = melee(plan);
                    int best = 0;
                    int most = -1;
                    int told = x.spares(ship, pulse);
                    for (int letter = 1; letter <= 4; letter++) {
                        int hull = hullWith(plan, ship, pulse, letter);
                        if (hull > most) {
                            most = hull;
                            best = letter;
                        }
                    }
                    found[best]++;
                    Sheets.due("20 " + plan + " ship " + ship + ", pulse " + pulse, told, best);
                    Sheets.due("20 the orders stay", x.fleet(0, 4), melee(plan).fleet(0, 4));
                }
            }
        }
        for (int letter = 1; letter <= 4; letter++) {
            Sheets.due("20 each letter is the best one somewhere: " + letter, found[letter] > 0, true);
        }
    }

    private static int hullWith(String plan, int ship, int pulse, int letter) {
        FleetSheet x = melee(plan);
        StringBuilder orders = new StringBuilder();
        for (int s = 0; s < 3; s++) {
            orders.append("pqr".charAt(s)).append(' ');
            for (int p = 0; p < 6; p++) {
                orders.append("alrh".charAt((s == ship && p == pulse ? letter : x.order(s, p)) - 1));
            }
            orders.append(';');
        }
        Sheets.write(x, 0, orders.toString());
        return x.after(ship, 4);
    }

    /** What bestWind() should answer, found by setting each wind on a sheet without shifts. */
    private static void bestWindAsTried() {
        for (String plan : PLANS) {
            for (int fleet = 0; fleet < 3; fleet++) {
                FleetSheet x = Sheets.of(MELEE.replace("shift 0 0 8;", ""));
                Sheets.write(x, 0, plan);
                int told = x.bestWind(fleet);
                Sheets.due("21 the wind stays", 10 * x.count(5) + x.count(6), 18);
                Sheets.due("21 shifts do not count", melee(plan).bestWind(fleet), told);
                int best = 0;
                int most = -1;
                for (int direction = 0; direction < 8; direction++) {
                    x.setWind(direction, 8);
                    int hull = 0;
                    for (int ship = 0; ship < 7; ship++) {
                        hull += x.ship(ship, 0) == fleet ? x.after(ship, 4) : 0;
                    }
                    if (hull > most) {
                        most = hull;
                        best = direction;
                    }
                }
                Sheets.due("21 " + plan + " fleet " + fleet, told, best);
            }
        }
        FleetSheet calm = Sheets.of(MELEE.replace("wind 1 8;", "wind 5 0;"));
        Sheets.due("21 no force: all alike, the first one", calm.bestWind(1), 0);
    }

    private static void duePace(String what, float got, float want) {
        Sheets.dueText(what, Float.toString(got), Float.toString(want));
    }

    private static void paces() {
        for (int ships = 1; ships <= 12; ships++) {
            StringBuilder t = new StringBuilder("sheet 20 9;wind 0 9;fleet a;");
            for (int i = 0; i < ships; i++) {
                t.append("ship ").append((char) ('a' + i)).append(' ').append(i).append(" 1 ").append(i == 0 ? 4 : 0).append(" sail 9;");
            }
            FleetSheet x = Sheets.of(t.toString());
            duePace("22 six cells of one of " + ships, x.pace(0), 6f / ships);
            Sheets.write(x, 0, "a ahhhhh;");
            duePace("22 one cell of one of " + ships, x.pace(0), 1f / ships);
            Sheets.write(x, 0, "a hhhhhh;");
            duePace("22 none", x.pace(0), 0f);
        }
        FleetSheet shifted = Sheets.of("sheet 9 9;wind 0 0;shift 0 0 9;fleet a;ship x 4 0 4 sail 9;");
        duePace("22 with the shift of the turn", shifted.pace(0), 6f);
        FleetSheet edge = Sheets.of("sheet 9 9;wind 0 9;fleet a;ship x 4 6 4 sail 9;");
        duePace("22 not off the sheet", edge.pace(0), 2f);
    }

    private static void runTellsAllRams() {
        StringBuilder t = new StringBuilder("sheet 12 4;wind 0 9;fleet a;");
        for (int i = 0; i < 6; i++) {
            t.append("ship ").append((char) ('a' + i)).append(' ').append(i).append(" 1 4 hull 99 mass 1 sail 9;");
            t.append("ship ").append((char) ('m' + i)).append(' ').append(i).append(" 2 0 hull 99 mass 1;");
        }
        String[] orders = {"", "a haaaaa;", "a hhhhha;c hhhhha;", "a hhhaaa;c hhhaaa;", "a hhhaaa;c hhhaaa;b hhhhhh;"};
        int[] rams = {36, 35, 26, 30, 24};
        for (int k = 0; k < orders.length; k++) {
            FleetSheet x = Sheets.of(t.toString());
            Sheets.write(x, 0, orders[k]);
            x.seal(0, 0);
            Sheets.due("25 rams with " + orders[k], x.run(), rams[k]);
            int kept = Math.min(30, rams[k]);
            Sheets.due("5 rams that are kept", x.count(7), kept);
            Sheets.due("13 the last one of them", x.ram(kept - 1, 1) % 2, 0);
            Sheets.dueIndex("13 no more", () -> x.ram(kept, 0));
            x.seal(0, 0);
            x.undo();
            x.undo();
            Sheets.due("27 none are kept ahead of the run", x.count(7), 0);
        }
    }

    private static void windBefore() {
        FleetSheet x = new FleetSheet();
        int before = 5;
        for (int direction = 7; direction >= 0; direction--) {
            for (int force = 0; force <= 9; force++) {
                Sheets.due("26 before " + direction + " " + force, x.setWind(direction, force), before);
                before = 10 * direction + force;
            }
        }
        Sheets.due("5 its direction", x.count(5), 0);
        Sheets.due("5 its force", x.count(6), 9);
        x.run();
        Sheets.due("3 it stays without a shift", 10 * x.count(5) + x.count(6), 9);
    }

    private static void shorterText() {
        FleetSheet x = Sheets.of("sheet 10 10;wind 0 5;fleet a;ship abc 2 5 4;fleet b;ship def 2 8 0 mass 5 hull 9;");
        Sheets.dueText("30 two ships", Sheets.ships(x), "abc=2,5S/20 def=2,8N/9");
        Sheets.sealAllAndRun(x);
        Sheets.due("31 what was written stays", x.writtenByte(21), '9');
        Sheets.dueText("30 in place of it", Sheets.ships(x), "abc=2,7S/16");
        Sheets.due("31 the last byte", x.writtenByte(10), '6');
        Sheets.dueIndex("31 none of the longer text", () -> x.writtenByte(11));
        x.undo();
        Sheets.dueIndex("31 undo leaves it", () -> x.writtenByte(11));
        FleetSheet one = Sheets.of(DUEL);
        Sheets.due("30 its length", one.writeShips(), Sheets.ships(one).length());
    }
}
