/** Term 4: what texts are read, and which error is found where. */
public final class GrammarTest {
    private static final String NAMES = "abcdefghijklmnopqrstuvwxyz";

    public static void main(String[] args) {
        syntax();
        values();
        twice();
        misfit();
        tooMany();
        whichFirst();
        rightTexts();
        orders();
        Sheets.finish();
    }

    private static void wrong(String text, int code, int position) {
        FleetSheet x = new FleetSheet();
        Sheets.due("load of " + text, Sheets.load(x, text), code);
        Sheets.due("errorPosition of " + text, x.errorPosition(), position);
        Sheets.due("the sheet stays behind " + text, x.count(0) * 100 + x.count(1) * 10 + x.count(2), 1101);
        Sheets.dueState("no change: " + text, () -> x.undo());
    }

    private static FleetSheet right(String text, int ships) {
        FleetSheet x = new FleetSheet();
        Sheets.due("load of " + text, Sheets.load(x, text), ships);
        Sheets.due("errorPosition of " + text, x.errorPosition(), FleetSheet.NONE);
        return x;
    }

    private static void syntax() {
        int e = FleetSheet.SYNTAX_ERROR;
        wrong("", e, 0);
        wrong("   ", e, 3);
        wrong("sheets 10 10;fleet a;", e, 0);
        wrong("shee", e, 0);
        wrong("theet 10 10;fleet a;", e, 0);
        wrong("sheet 10 10;bleet a;", e, 12);
        wrong("sheet 10 10;fleet a;ship x 1 1 1 bull 5;", e, 33);
        wrong("Sheet 10 10;fleet a;", e, 0);
        wrong("  sheet", e, 7);
        wrong("sheet x", e, 6);
        wrong("sheet 10", e, 8);
        wrong("sheet 10 ", e, 9);
        wrong("sheet 10 -5;", e, 9);
        wrong("sheet 10 10", e, 11);
        wrong("sheet 10 10,", e, 11);
        wrong("sheet 10 10 10;", e, 12);
        wrong("sheet 10 10;", e, 12);
        wrong("sheet 10 10;  ", e, 14);
        wrong("sheet 10 10;ship a 0 0 0;", e, 12);
        wrong("sheet 10 10;wind;fleet a;", e, 16);
        wrong("sheet 10 10;wind 1;fleet a;", e, 18);
        wrong("sheet 10 10;wind 1 1", e, 20);
        wrong("sheet 10 10;wind 1 1;", e, 21);
        wrong("sheet 10 10;wind 1 1;wind 1 1;fleet a;", e, 21);
        wrong("sheet 10 10;shift 1 1 1;wind 1 1;fleet a;", e, 24);
        wrong("sheet 10 10;shift 1 1;fleet a;", e, 21);
        wrong("sheet 10 10;shift a 1 1;fleet a;", e, 18);
        wrong("sheet 10 10;shift 1 1 1", e, 23);
        wrong("sheet 10 10;shift 1 1 1;", e, 24);
        wrong("sheet 10 10;fleet", e, 17);
        wrong("sheet 10 10;fleet ;", e, 18);
        wrong("sheet 10 10;fleet 7;", e, 18);
        wrong("sheet 10 10;fleet a", e, 19);
        wrong("sheet 10 10;fleet a b;", e, 20);
        wrong("sheet 10 10;fleet abcdefghi;", e, 18);
        wrong("sheet 10 10;fleet a;;", e, 20);
        wrong("sheet 10 10;fleet a;shift 1 1 1;", e, 20);
        wrong("sheet 10 10;fleet a;7", e, 20);
        wrong("sheet 10 10;fleet a;ships x 0 0 0;", e, 20);
        wrong("sheet 10 10;fleet a;ship", e, 24);
        wrong("sheet 10 10;fleet a;ship 1 1 1;", e, 25);
        wrong("sheet 10 10;fleet a;ship abcdefghi 1 1 1;", e, 25);
        wrong("sheet 10 10;fleet a;ship x", e, 26);
        wrong("sheet 10 10;fleet a;ship x 1", e, 28);
        wrong("sheet 10 10;fleet a;ship x 1 1", e, 30);
        wrong("sheet 10 10;fleet a;ship x 1 1 1", e, 32);
        wrong("sheet 10 10;fleet a;ship x 1 1;", e, 30);
        wrong("sheet 10 10;fleet a;ship x 1 1 1 1;", e, 33);
        wrong("sheet 10 10;fleet a;ship x 1 1 1 oars 1;", e, 33);
        wrong("sheet 10 10;fleet a;ship x 1 1 1 hull;", e, 37);
        wrong("sheet 10 10;fleet a;ship x 1 1 1 hull mass 1;", e, 38);
        wrong("sheet 10 10;fleet a;ship x 1 1 1 hull 1 2;", e, 40);
        wrong("sheet 10 10;fleet a;ship x 1 1 1 hull 1", e, 39);
        wrong("sheet 10 10;fleet a;ship x 1 1 1 hulls 1;", e, 33);
        wrong("sheet 10 10;fleet a;\n", e, 20);
        wrong("sheet\t10 10;fleet a;", e, 5);
        wrong("sheet 10 10;fleet a`;", e, 19);
        wrong("sheet 10 10;fleet a{;", e, 19);
        wrong("sheet 1/ 10;fleet a;", FleetSheet.VALUE_ERROR, 6);
        wrong("sheet 10:10;fleet a;", e, 8);
        wrong("sheet 10/10;fleet a;", e, 8);
        wrong("sheet 10 10;fleet " + (char) 225 + ";", e, 18);
    }

    private static void values() {
        int e = FleetSheet.VALUE_ERROR;
        wrong("sheet 3 10;fleet a;", e, 6);
        wrong("sheet 31 10;fleet a;", e, 6);
        wrong("sheet 10 3;fleet a;", e, 9);
        wrong("sheet 10 0031;fleet a;", e, 9);
        wrong("sheet 4294967306 10;fleet a;", e, 6);
        wrong("sheet 18446744073709551626 10;fleet a;", e, 6);
        wrong("sheet 10 10;wind 8 1;fleet a;", e, 17);
        wrong("sheet 10 10;wind 7 10;fleet a;", e, 19);
        wrong("sheet 10 10;shift 1000 1 1;fleet a;", e, 18);
        wrong("sheet 10 10;shift 1 8 1;fleet a;", e, 20);
        wrong("sheet 10 10;shift 1 1 10;fleet a;", e, 22);
        wrong("sheet 10 20;fleet a;ship x 10 1 1;", e, 27);
        wrong("sheet 20 10;fleet a;ship x 1 10 1;", e, 29);
        wrong("sheet 10 10;fleet a;ship x 1 1 8;", e, 31);
        wrong("sheet 10 10;fleet a;ship x 1 1 1 hull 0;", e, 38);
        wrong("sheet 10 10;fleet a;ship x 1 1 1 hull 100;", e, 38);
        wrong("sheet 10 10;fleet a;ship x 1 1 1 mass 0;", e, 38);
        wrong("sheet 10 10;fleet a;ship x 1 1 1 mass 10;", e, 38);
        wrong("sheet 10 10;fleet a;ship x 1 1 1 sail 00;", e, 38);
        wrong("sheet 10 10;fleet a;ship x 1 1 1 sail 10;", e, 38);
        wrong("sheet 10 10;fleet a;ship x 1 1 1 stiff 4;", e, 39);
    }

    private static void twice() {
        int e = FleetSheet.TWICE;
        wrong("sheet 10 10;fleet a;fleet b;fleet a;", e, 34);
        wrong("sheet 10 10;fleet a;ship x 1 1 1;ship x 2 2 2;", e, 38);
        wrong("sheet 10 10;fleet a;ship x 1 1 1;fleet b;ship x 2 2 2;", e, 46);
        wrong("sheet 10 10;shift 5 1 1;shift 4 1 1;shift 005 2 2;fleet a;", e, 42);
        wrong("sheet 10 10;fleet a;ship x 1 1 1 hull 5 hull 6;", e, 40);
        wrong("sheet 10 10;fleet a;ship x 1 1 1 mass 5 sail 1 mass 5;", e, 47);
        wrong("sheet 10 10;fleet a;ship x 1 1 1 sail 5 sail;", e, 40);
        wrong("sheet 10 10;fleet a;ship x 1 1 1 stiff 1 mass 1 hull 1 sail 1 stiff", e, 62);
    }

    private static void misfit() {
        int e = FleetSheet.MISFIT;
        wrong("sheet 10 10;fleet a;ship x 1 2 0;ship y 1 2 3;", e, 44);
        wrong("sheet 10 10;fleet a;ship x 1 2 0;fleet b;ship y 1  02 003 hull 100;", e, 54);
        right("sheet 10 10;fleet a;ship x 1 2 0;ship y 2 1 3;ship z 1 1 0;", 3);
    }

    private static String shifts(int n) {
        StringBuilder t = new StringBuilder("sheet 10 10;");
        for (int i = 0; i < n; i++) {
            t.append("shift ").append(i).append(" 1 1;");
        }
        return t.toString();
    }

    private static String ships(int n) {
        StringBuilder t = new StringBuilder("sheet 20 10;fleet a;");
        for (int i = 0; i < n; i++) {
            t.append(i == 7 ? "fleet b;" : "").append("ship ").append(NAMES.charAt(i)).append(' ').append(i).append(" 0 0;");
        }
        return t.toString();
    }

    private static void tooMany() {
        int e = FleetSheet.TOO_MANY;
        String four = "sheet 10 10;fleet a;fleet b;fleet c;fleet d;";
        Sheets.due("four fleets", right(four, 0).count(2), 4);
        wrong(four + "fleet e;", e, four.length());
        wrong(four + "ship x 0 0 0;fleet", e, four.length() + 13);
        right(shifts(8) + "fleet a;", 0);
        wrong(shifts(9) + "fleet a;", e, shifts(8).length());
        wrong(shifts(8) + "  shift", e, shifts(8).length() + 2);
        right(ships(12), 12);
        wrong(ships(13), e, ships(12).length());
        wrong(ships(12) + " ship", e, ships(12).length() + 1);
        wrong(ships(12) + "fleet c;ship 1", e, ships(12).length() + 8);
        wrong(ships(12) + "ships", FleetSheet.SYNTAX_ERROR, ships(12).length());
    }

    private static void whichFirst() {
        wrong("sheet 10 10;fleet a;ship x 1 1 1;ship y 1 1 8;", FleetSheet.VALUE_ERROR, 44);
        wrong("sheet 10 10;shift 5 1 1;shift 5 9 9;fleet a;", FleetSheet.TWICE, 30);
        wrong("sheet 10 10;fleet a;ship x 1 1 1;ship x 99 1 1;", FleetSheet.TWICE, 38);
        wrong("sheet 10 10;fleet a;fleet a", FleetSheet.TWICE, 26);
        wrong("sheet 31", FleetSheet.VALUE_ERROR, 6);
        wrong("sheet 10 10;fleet a;ship x 1 1 1 hull 100", FleetSheet.VALUE_ERROR, 38);
    }

    private static void rightTexts() {
        FleetSheet x = right("sheet04 0030;wind00 00;fleet ship;ship fleet 003 029 007hull0099mass01sail9stiff 3;"
            + "ship wind 0 0 0 stiff0 sail 1 mass 9 hull 1;fleet sheet;fleet abcdefgh;ship stiff 1 1 1;", 3);
        Sheets.due("columns", x.count(0), 4);
        Sheets.due("rows", x.count(1), 30);
        Sheets.due("force", x.count(6), 0);
        Sheets.due("fleets", x.count(2), 3);
        Sheets.due("hull", x.ship(0, 4), 99);
        Sheets.due("mass", x.ship(0, 5), 1);
        Sheets.due("sail", x.ship(0, 6), 9);
        Sheets.due("stiffness", x.ship(0, 7), 3);
        Sheets.due("stiffness 0", x.ship(1, 7), 0);
        Sheets.due("hull 1", x.ship(1, 4), 1);
        Sheets.due("mass 9", x.ship(1, 5), 9);
        Sheets.due("fleet of the last", x.ship(2, 0), 2);
        right("  sheet  30  4  ;  wind  7  9  ;  shift  999  7  9  ;  fleet  a  ;  ship  x  29  3  7  hull  1  ;  ", 1);
        right("sheet 10 10;fleet abcdefgh;ship abcdefgh 1 1 1;", 1);
        right("sheet 10 10;fleet a;fleet aa;fleet aaa;ship a 1 1 1;ship aa 2 2 2;", 2);
        right("sheet 10 10;fleet a;ship hull 1 1 1 hull 00000000000000000000000000000007;", 1);
        FleetSheet y = right("sheet 10 10;shift 7 3 4;fleet a;", 0);
        Sheets.due("the wind without a text", y.count(5) * 10 + y.count(6), 5);
        StringBuilder full = new StringBuilder("sheet 10 10;fleet a;");
        while (full.length() < 600) {
            full.append(' ');
        }
        right(full.toString(), 0);
    }

    private static void wrongOrders(String text, int code, int position) {
        FleetSheet x = Sheets.of("sheet 10 10;fleet a;ship x 2 5 0;ship abcdefgh 5 5 0;fleet b;ship y 0 0 0;");
        Sheets.write(x, 0, "x lrh;");
        Sheets.due("write of " + text, Sheets.write(x, 0, text), code);
        Sheets.due("errorPosition of " + text, x.errorPosition(), position);
        Sheets.due("the orders stay behind " + text, x.fleet(0, 4), 3);
        Sheets.due("no change: " + text, x.undo(), 1);
    }

    private static void orders() {
        wrongOrders("x", FleetSheet.SYNTAX_ERROR, 1);
        wrongOrders("x  ", FleetSheet.SYNTAX_ERROR, 3);
        wrongOrders("x ;", FleetSheet.SYNTAX_ERROR, 2);
        wrongOrders("x a", FleetSheet.SYNTAX_ERROR, 3);
        wrongOrders("x a b;", FleetSheet.SYNTAX_ERROR, 4);
        wrongOrders("x 5;", FleetSheet.SYNTAX_ERROR, 2);
        wrongOrders(";", FleetSheet.SYNTAX_ERROR, 0);
        wrongOrders("x a;;", FleetSheet.SYNTAX_ERROR, 4);
        wrongOrders("x a;5", FleetSheet.SYNTAX_ERROR, 4);
        wrongOrders("abcdefghi a;", FleetSheet.SYNTAX_ERROR, 0);
        wrongOrders("x A;", FleetSheet.SYNTAX_ERROR, 2);
        wrongOrders("x aA;", FleetSheet.SYNTAX_ERROR, 3);
        wrongOrders("y a;", FleetSheet.UNKNOWN, 0);
        wrongOrders("x a; z", FleetSheet.UNKNOWN, 5);
        wrongOrders("xa;", FleetSheet.UNKNOWN, 0);
        wrongOrders("abcdefg a;", FleetSheet.UNKNOWN, 0);
        wrongOrders("x a;x l;", FleetSheet.TWICE, 4);
        wrongOrders("x a;abcdefgh l; x", FleetSheet.TWICE, 16);
        wrongOrders("x lb;", FleetSheet.VALUE_ERROR, 3);
        wrongOrders("x aaaaaab;", FleetSheet.VALUE_ERROR, 8);
        wrongOrders("x aaaaaaa;", FleetSheet.VALUE_ERROR, 8);
        wrongOrders("x aaaaahhhhhhhhhhhhhh", FleetSheet.VALUE_ERROR, 8);
        wrongOrders("x zaaaaaaaa", FleetSheet.VALUE_ERROR, 2);
        FleetSheet x = Sheets.of("sheet 10 10;fleet a;ship x 2 5 0;ship abcdefgh 5 5 0;");
        Sheets.due("spaces alone", Sheets.write(x, 0, "   "), 0);
        Sheets.due("spaces", Sheets.write(x, 0, "  x  lr  ; abcdefgh hhhhhh;  "), 2);
        Sheets.due("letters", x.fleet(0, 4), 8);
    }
}
