/** What the tests share: texts as calls of append, and answers that are due. */
final class Sheets {
    private static int wrong = 0;
    private static int told = 0;

    private Sheets() {
    }

    static void feed(FleetSheet x, String text) {
        for (int i = 0; i < text.length(); i += 20) {
            int[] four = new int[5];
            for (int k = 0; k < 20; k++) {
                int one = i + k < text.length() ? text.charAt(i + k) & 255 : 0;
                four[k / 4] |= one << (24 - 8 * (k % 4));
            }
            x.append(four[0], four[1], four[2], four[3], four[4]);
        }
    }

    static int load(FleetSheet x, String text) {
        feed(x, text);
        return x.load();
    }

    static int write(FleetSheet x, int fleet, String text) {
        feed(x, text);
        return x.write(fleet);
    }

    /** A new sheet with a text that must be right. */
    static FleetSheet of(String text) {
        FleetSheet x = new FleetSheet();
        if (load(x, text) < 0) {
            throw new IllegalArgumentException("a wrong text in a test: " + text);
        }
        return x;
    }

    static int sealAllAndRun(FleetSheet x) {
        for (int fleet = 0; fleet < x.count(2); fleet++) {
            if (x.fleet(fleet, 3) == 0) {
                x.seal(fleet, fleet);
            }
        }
        return x.run();
    }

    static String ships(FleetSheet x) {
        StringBuilder all = new StringBuilder();
        int length = x.writeShips();
        for (int i = 0; i < length; i++) {
            all.append((char) x.writtenByte(i));
        }
        return all.toString();
    }

    /** Everything that the calls tell of the sheet, in one text; some hundred calls for a small sheet. */
    static String told(FleetSheet x) {
        StringBuilder t = new StringBuilder();
        int[] counts = new int[11];
        for (int what = 0; what < counts.length; what++) {
            counts[what] = x.count(what);
            t.append(counts[what]).append(' ');
        }
        tellShips(x, counts, t.append("| "));
        tellFleets(x, counts, t.append("| "));
        for (int ram = 0; ram < counts[7]; ram++) {
            for (int what = 0; what < 5; what++) {
                t.append(x.ram(ram, what)).append(' ');
            }
        }
        for (int turn = 0; turn < 5; turn++) {
            t.append("| ").append(x.shift(turn, 0)).append(' ').append(x.shift(turn, 1)).append(' ');
        }
        return t.toString();
    }

    private static void tellShips(FleetSheet x, int[] counts, StringBuilder t) {
        for (int ship = 0; ship < counts[3]; ship++) {
            for (int what = 0; what < 11; what++) {
                t.append(x.ship(ship, what)).append(' ');
            }
            for (int pulse = 0; pulse < 6; pulse++) {
                t.append(x.order(ship, pulse));
                for (int turn = counts[4] - counts[8]; turn < counts[4]; turn++) {
                    t.append(' ').append(x.logged(turn, ship, pulse));
                }
                t.append(' ');
            }
        }
    }

    private static void tellFleets(FleetSheet x, int[] counts, StringBuilder t) {
        for (int fleet = 0; fleet < counts[2]; fleet++) {
            for (int what = 0; what < 5; what++) {
                t.append(x.fleet(fleet, what)).append(' ');
            }
            for (int turn = counts[4] - counts[8]; turn <= counts[4]; turn++) {
                t.append(x.sealOf(turn, fleet)).append(' ');
            }
        }
    }

    static void due(String what, long got, long want) {
        told++;
        if (got != want) {
            wrong++;
            System.out.println(what + " answered " + got + ", due is " + want);
        }
    }

    static void due(String what, boolean got, boolean want) {
        due(what, got ? 1 : 0, want ? 1 : 0);
    }

    static void dueText(String what, String got, String want) {
        told++;
        if (!got.equals(want)) {
            wrong++;
            System.out.println(what + " answered \"" + got + "\", due is \"" + want + "\"");
        }
    }

    static void dueThrow(String what, Class<?> want, Runnable call) {
        String got = "nothing";
        try {
            call.run();
        } catch (RuntimeException e) {
            got = e.getClass().getSimpleName();
        }
        dueText(what + " throws", got, want.getSimpleName());
    }

    static void dueIndex(String what, Runnable call) {
        dueThrow(what, IndexOutOfBoundsException.class, call);
    }

    static void dueArgument(String what, Runnable call) {
        dueThrow(what, IllegalArgumentException.class, call);
    }

    static void dueState(String what, Runnable call) {
        dueThrow(what, IllegalStateException.class, call);
    }

    static void finish() {
        System.out.println(told + " answers, " + wrong + " not as due");
        if (wrong != 0) {
            System.exit(1);
        }
    }
}
