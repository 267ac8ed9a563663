import java.util.ArrayList;
import java.util.List;

/** Term 4 at its bounds: where texts end, what earlier texts leave behind, how much of all there may be. */
public final class TextBoundsTest {
    private static final String RICH = " sheet 12 9 ; wind 3 7;shift 0 1 2;shift 999 7 9;fleet fleet;ship ship 11 8 7 hull 99 stiff 0"
        + " mass 9 sail 1;ship b 0 0 0;fleet abcdefgh ;fleet c;ship wind 3 4 5 sail 09; ";
    private static final String RICH_ORDERS = " x lrha ;abcdefgh hhhhhh; y a;";
    private static final String ORDERED = "sheet 10 10;fleet a;ship x 2 5 0;ship abcdefgh 5 5 0;ship y 0 0 0;fleet b;ship z 9 9 0;";

    public static void main(String[] args) {
        eachEndOfASheet();
        eachEndOfOrders();
        eachByteOfASheet();
        eachByteOfOrders();
        leftFromBefore();
        sixHundredBytes();
        unfinishedAtSixHundred();
        wholeSheet();
        wordsInWrongPlaces();
        twelveOrders();
        eachLetterOfOrders();
        leastAndMost();
        optionsInAnyOrder();
        Sheets.finish();
    }

    private static void loadDue(FleetSheet x, String text, int code, int position) {
        Sheets.due("load of " + text, Sheets.load(x, text), code);
        Sheets.due("errorPosition of " + text, x.errorPosition(), position);
    }

    private static void writeDue(FleetSheet x, int fleet, String text, int code, int position) {
        Sheets.due("write of " + text, Sheets.write(x, fleet, text), code);
        Sheets.due("errorPosition of " + text, x.errorPosition(), position);
    }

    private static void feed(Oracle oracle, String text) {
        for (int i = 0; i < text.length(); i++) {
            oracle.append(text.charAt(i), 0, 0, 0, 0);
        }
    }

    /** As the second telling answers; the whole text has been in the buffer ahead of it. */
    private static void loadAsTold(String text) {
        FleetSheet x = Sheets.of(RICH);
        Oracle oracle = new Oracle();
        feed(oracle, text);
        int code = oracle.load();
        loadDue(x, text, code, oracle.errorPosition());
    }

    private static void writeAsTold(String text) {
        FleetSheet x = Sheets.of(ORDERED);
        Sheets.write(x, 0, RICH_ORDERS);
        Oracle oracle = new Oracle();
        feed(oracle, ORDERED);
        oracle.load();
        feed(oracle, text);
        int code = oracle.write(0);
        writeDue(x, 0, text, code, oracle.errorPosition());
    }

    private static void eachEndOfASheet() {
        Sheets.due("the rich text is right", Sheets.of(RICH).count(3), 3);
        for (int end = 0; end <= RICH.length(); end++) {
            loadAsTold(RICH.substring(0, end));
        }
    }

    private static void eachEndOfOrders() {
        Sheets.due("the rich orders are right", Sheets.write(Sheets.of(ORDERED), 0, RICH_ORDERS), 3);
        for (int end = 0; end <= RICH_ORDERS.length(); end++) {
            writeAsTold(RICH_ORDERS.substring(0, end));
        }
    }

    /** A text with one byte taken out, and with one byte in place of another. */
    private static List<String> changed(String text) {
        List<String> all = new ArrayList<>();
        for (int at = 0; at < text.length(); at++) {
            all.add(text.substring(0, at) + text.substring(at + 1));
            for (char one : (" ;a1`{/:A\n" + (char) 128 + (char) 255).toCharArray()) {
                all.add(text.substring(0, at) + one + text.substring(at + 1));
            }
        }
        return all;
    }

    private static void eachByteOfASheet() {
        for (String text : changed(RICH)) {
            loadAsTold(text);
        }
    }

    private static void eachByteOfOrders() {
        for (String text : changed(RICH_ORDERS)) {
            writeAsTold(text);
        }
    }

    /** The bytes behind the end of the text are of an earlier one and do not count. */
    private static void leftFromBefore() {
        FleetSheet x = Sheets.of("sheet 10 10;fleet abc;ship x 1 1 1;");
        loadDue(x, "sheet 10 10;fleet abc", FleetSheet.SYNTAX_ERROR, 21);
        loadDue(x, "sheet 10 10;fleet abc;shi", FleetSheet.SYNTAX_ERROR, 22);
        loadDue(x, "sheet 10 10;fleet abc;ship x 1 1", FleetSheet.SYNTAX_ERROR, 32);
        loadDue(x, "sheet 10 1", FleetSheet.VALUE_ERROR, 9);
        loadDue(x, "shee", FleetSheet.SYNTAX_ERROR, 0);
        Sheets.due("nothing of them was loaded", x.count(3), 1);
        loadDue(x, "sheet 10 10;fleet abc;ship x 1 1 1;", 1, FleetSheet.NONE);
        loadDue(x, "sheet 10 10;fleet abc;", 0, FleetSheet.NONE);
        FleetSheet y = Sheets.of(ORDERED);
        writeDue(y, 0, "x lrhlrh;", 1, FleetSheet.NONE);
        writeDue(y, 0, "x lrh", FleetSheet.SYNTAX_ERROR, 5);
        writeDue(y, 0, "x", FleetSheet.SYNTAX_ERROR, 1);
        Sheets.due("the orders stay", y.fleet(0, 4), 6);
        writeDue(y, 0, "", 0, FleetSheet.NONE);
    }

    private static String filled(String text, int length, String end) {
        StringBuilder t = new StringBuilder(text);
        while (t.length() + end.length() < length) {
            t.append(' ');
        }
        return t.append(end).toString();
    }

    private static void sixHundredBytes() {
        FleetSheet x = new FleetSheet();
        Sheets.feed(x, filled("sheet 10 10;fleet a;", 600, "ship x 1 1 1;"));
        Sheets.dueState("2 the 601st byte", () -> x.append(' ' << 24, 0, 0, 0, 0));
        Sheets.due("2 the text is as it was", x.load(), 1);
        FleetSheet y = new FleetSheet();
        Sheets.feed(y, filled("sheet 10 10;fleet a;", 590, ""));
        int four = 0x66666666;
        Sheets.dueState("2 not a part of them either", () -> y.append(four, four, four, four, four));
        Sheets.due("2 590 still", y.append(0, 0, 0, 0, 0), 590);
        Sheets.due("2 the text is right", y.load(), 0);
    }

    private static void unfinishedAtSixHundred() {
        FleetSheet x = new FleetSheet();
        loadDue(x, filled("", 600, ""), FleetSheet.SYNTAX_ERROR, 600);
        loadDue(x, filled("sheet 10 10;fleet a;", 600, "fleet b"), FleetSheet.SYNTAX_ERROR, 600);
        loadDue(x, filled("sheet 10 10;fleet a;", 600, "fleet"), FleetSheet.SYNTAX_ERROR, 600);
        loadDue(x, filled("sheet 10 10;fleet a;", 600, "flee"), FleetSheet.SYNTAX_ERROR, 596);
        loadDue(x, filled("sheet 10 10;fleet a;", 600, "ship x 1 1 1"), FleetSheet.SYNTAX_ERROR, 600);
        loadDue(x, filled("sheet 10 10;fleet a;", 600, "ship x 1 1 8"), FleetSheet.VALUE_ERROR, 599);
        loadDue(x, filled("sheet 10 10;fleet a;", 600, ";"), FleetSheet.SYNTAX_ERROR, 599);
        loadDue(x, filled("sheet 10 10;", 600, "fleet a;"), 0, FleetSheet.NONE);
        FleetSheet y = Sheets.of(ORDERED);
        writeDue(y, 0, filled("x l;", 600, "y r"), FleetSheet.SYNTAX_ERROR, 600);
        writeDue(y, 0, filled("x l;", 600, "y r;"), 2, FleetSheet.NONE);
        writeDue(y, 0, filled("", 600, ""), 0, FleetSheet.NONE);
    }

    private static String names(int from, int to) {
        StringBuilder t = new StringBuilder();
        for (int i = from; i < to; i++) {
            t.append("ship ").append((char) ('a' + i)).append(' ').append(i).append(" 0 0;");
        }
        return t.toString();
    }

    /** Four fleets and twelve ships, and one more of anything. */
    private static void wholeSheet() {
        String all = "sheet 12 4;fleet a;" + names(0, 3) + "fleet b;" + names(3, 6) + "fleet c;" + names(6, 9) + "fleet d;" + names(9, 12);
        FleetSheet x = Sheets.of(all);
        Sheets.due("four fleets", x.count(2), 4);
        Sheets.due("twelve ships", x.count(3), 12);
        for (int ship = 0; ship < 12; ship++) {
            Sheets.due("fleet of ship " + ship, x.ship(ship, 0), ship / 3);
            Sheets.due("column of ship " + ship, x.at(ship, 0), ship);
        }
        int end = all.length();
        loadDue(x, all + "ship", FleetSheet.TOO_MANY, end);
        loadDue(x, all + "  fleet", FleetSheet.TOO_MANY, end + 2);
        loadDue(x, all + "ship a 0 0 0;", FleetSheet.TOO_MANY, end);
        loadDue(x, all + "fleet a;", FleetSheet.TOO_MANY, end);
        loadDue(x, all + "shift", FleetSheet.SYNTAX_ERROR, end);
        loadDue(x, all + ";", FleetSheet.SYNTAX_ERROR, end);
        loadDue(x, all + "  ", 12, FleetSheet.NONE);
        Sheets.due("the sheet is whole", x.count(9), 12);
    }

    private static void wordsInWrongPlaces() {
        FleetSheet x = new FleetSheet();
        loadDue(x, "sheet 10 10;fleet a;fleet", FleetSheet.SYNTAX_ERROR, 25);
        loadDue(x, "sheet 10 10;fleet a;fleet ", FleetSheet.SYNTAX_ERROR, 26);
        loadDue(x, "sheet 10 10;fleet a;fleet;", FleetSheet.SYNTAX_ERROR, 25);
        loadDue(x, "sheet 10 10;fleet a;ship", FleetSheet.SYNTAX_ERROR, 24);
        loadDue(x, "sheet 10 10;shift", FleetSheet.SYNTAX_ERROR, 17);
        loadDue(x, "sheet 10 10;fleet a;wind 1 1;", FleetSheet.SYNTAX_ERROR, 20);
        loadDue(x, "sheet 10 10;fleet a;ship x 1 1 1;shift 1 1 1;", FleetSheet.SYNTAX_ERROR, 33);
        loadDue(x, "sheet 10 10;fleet a;sheet 10 10;", FleetSheet.SYNTAX_ERROR, 20);
        loadDue(x, "wind 1 1;", FleetSheet.SYNTAX_ERROR, 0);
        loadDue(x, "sheet 10 10;fleet a;ship x 1 1 1 ship;", FleetSheet.SYNTAX_ERROR, 33);
        loadDue(x, "sheet 10 10;fleet a;ship x 1 1 1 stiff 3 mass 3 hull 3 sail 3 oars", FleetSheet.SYNTAX_ERROR, 62);
        loadDue(x, "sheet 10 10;fleet sheet;ship wind 1 1 1;ship shift 2 2 2;", 2, FleetSheet.NONE);
        loadDue(x, "sheet 10 10;fleet a;ship mass 1 1 1mass1;", 1, FleetSheet.NONE);
        loadDue(x, "sh eet 10 10;fleet a;", FleetSheet.SYNTAX_ERROR, 0);
        loadDue(x, "sheet 1 0 10;fleet a;", FleetSheet.VALUE_ERROR, 6);
        loadDue(x, "sheet 10 10;fleet a b;", FleetSheet.SYNTAX_ERROR, 20);
    }

    private static void twelveOrders() {
        String sheet = "sheet 12 4;fleet a;" + names(0, 12);
        StringBuilder t = new StringBuilder();
        for (int i = 11; i >= 0; i--) {
            t.append((char) ('a' + i)).append(" hhhhhh;");
        }
        FleetSheet x = Sheets.of(sheet);
        Sheets.due("4 twelve ships are named", Sheets.write(x, 0, t.toString()), 12);
        Sheets.due("4 each has six letters", x.fleet(0, 4), 72);
        writeDue(x, 0, t + "c a;", FleetSheet.TWICE, t.length());
        writeDue(x, 0, t + " m a;", FleetSheet.UNKNOWN, t.length() + 1);
        writeDue(x, 0, t + ";", FleetSheet.SYNTAX_ERROR, t.length());
        writeDue(x, 0, t + "1", FleetSheet.SYNTAX_ERROR, t.length());
        writeDue(x, 0, t + "abcdefghi a;", FleetSheet.SYNTAX_ERROR, t.length());
        writeDue(x, 0, t + " ", 12, FleetSheet.NONE);
    }

    private static void eachLetterOfOrders() {
        for (char letter = 'a'; letter <= 'z'; letter++) {
            int number = "alrh".indexOf(letter) + 1;
            FleetSheet x = Sheets.of(ORDERED);
            for (int length = 1; length <= 7; length++) {
                String text = "x " + String.valueOf(letter).repeat(length) + ";";
                if (number == 0) {
                    writeDue(x, 0, text, FleetSheet.VALUE_ERROR, 2);
                } else if (length == 7) {
                    writeDue(x, 0, text, FleetSheet.VALUE_ERROR, 8);
                } else {
                    writeDue(x, 0, text, 1, FleetSheet.NONE);
                    Sheets.due("2 the last letter of " + text, x.order(0, length - 1), number);
                    Sheets.due("2 behind " + text, length < 6 ? x.order(0, length) : 1, 1);
                }
            }
        }
    }

    /** Each number of the grammar: one below its range, its least, its most, one above. */
    private static void leastAndMost() {
        String[] texts = {"sheet # 10;fleet a;", "sheet 10 #;fleet a;", "sheet 9 9;wind # 1;fleet a;", "sheet 9 9;wind 1 #;fleet a;",
            "sheet 9 9;shift # 1 1;fleet a;", "sheet 9 9;shift 1 # 1;fleet a;", "sheet 9 9;shift 1 1 #;fleet a;",
            "sheet 30 4;fleet a;ship x # 1 1;", "sheet 4 30;fleet a;ship x 1 # 1;", "sheet 4 30;fleet a;ship x # 1 1;",
            "sheet 30 4;fleet a;ship x 1 # 1;", "sheet 9 9;fleet a;ship x 1 1 #;",
            "sheet 9 9;fleet a;ship x 1 1 1 hull #;", "sheet 9 9;fleet a;ship x 1 1 1 mass #;",
            "sheet 9 9;fleet a;ship x 1 1 1 sail #;", "sheet 9 9;fleet a;ship x 1 1 1 stiff #;"};
        int[][] ranges = {{4, 30}, {4, 30}, {0, 7}, {0, 9}, {0, 999}, {0, 7}, {0, 9}, {0, 29}, {0, 29}, {0, 3}, {0, 3}, {0, 7},
            {1, 99}, {1, 9}, {1, 9}, {0, 3}};
        for (int k = 0; k < texts.length; k++) {
            int at = texts[k].indexOf('#');
            int ships = texts[k].contains("ship") ? 1 : 0;
            for (int end : ranges[k]) {
                loadDue(new FleetSheet(), texts[k].replace("#", "" + end), ships, FleetSheet.NONE);
                loadDue(new FleetSheet(), texts[k].replace("#", "000" + end), ships, FleetSheet.NONE);
            }
            loadDue(new FleetSheet(), texts[k].replace("#", "" + (ranges[k][1] + 1)), FleetSheet.VALUE_ERROR, at);
            loadDue(new FleetSheet(), texts[k].replace("#", "00" + (ranges[k][1] + 1)), FleetSheet.VALUE_ERROR, at);
            loadDue(new FleetSheet(), texts[k].replace("#", "4294967300"), FleetSheet.VALUE_ERROR, at);
            loadDue(new FleetSheet(), texts[k].replace("#", "9999999999999999999999"), FleetSheet.VALUE_ERROR, at);
            if (ranges[k][0] > 0) {
                loadDue(new FleetSheet(), texts[k].replace("#", "" + (ranges[k][0] - 1)), FleetSheet.VALUE_ERROR, at);
                loadDue(new FleetSheet(), texts[k].replace("#", "0"), FleetSheet.VALUE_ERROR, at);
            }
            loadDue(new FleetSheet(), texts[k].replace("#", "-1"), FleetSheet.SYNTAX_ERROR, at);
            loadDue(new FleetSheet(), texts[k].replace("#", "x"), FleetSheet.SYNTAX_ERROR, at);
        }
    }

    private static void optionsInAnyOrder() {
        String[] words = {"hull", "mass", "sail", "stiff"};
        int[] plain = {20, 3, 5, 1};
        for (int set = 0; set < 16; set++) {
            StringBuilder up = new StringBuilder();
            StringBuilder down = new StringBuilder();
            for (int k = 0; k < 4; k++) {
                if ((set >> k & 1) != 0) {
                    up.append(' ').append(words[k]).append(" 2");
                    down.insert(0, " " + words[k] + " 2");
                }
            }
            for (String options : new String[] {up.toString(), down.toString()}) {
                FleetSheet x = Sheets.of("sheet 9 9;fleet a;ship x 1 1 1" + options + ";");
                for (int k = 0; k < 4; k++) {
                    Sheets.due("1 " + words[k] + " of" + options, x.ship(0, 4 + k), (set >> k & 1) != 0 ? 2 : plain[k]);
                }
                for (int k = 0; k < 4; k++) {
                    String text = "sheet 9 9;fleet a;ship x 1 1 1" + options + " " + words[k];
                    boolean twice = (set >> k & 1) != 0;
                    loadDue(x, text, twice ? FleetSheet.TWICE : FleetSheet.SYNTAX_ERROR, text.length() - (twice ? words[k].length() : 0));
                }
            }
        }
    }
}
