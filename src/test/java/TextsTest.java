/** Promises 30 and 31: writeShips, writtenByte; and the face and its constants. */
public final class TextsTest {
    public static void main(String[] args) {
        headings();
        ships();
        bytes();
        face();
        Sheets.finish();
    }

    private static void headings() {
        String[] want = {"N", "NE", "E", "SE", "S", "SW", "W", "NW"};
        for (int heading = 0; heading < 8; heading++) {
            FleetSheet x = Sheets.of("sheet 10 10;fleet a;ship x 2 5 " + heading + ";");
            Sheets.dueText("30 heading " + heading, Sheets.ships(x), "x=2,5" + want[heading] + "/20");
        }
    }

    private static void ships() {
        FleetSheet x = Sheets.of("sheet 30 30;fleet a;ship abcdefgh 29 10 7 hull 99;ship azaz 9 9 1 hull 9;"
            + "fleet b;ship z 0 0 2 hull 10;");
        Sheets.dueText("30 ships", Sheets.ships(x), "abcdefgh=29,10NW/99 azaz=9,9NE/9 z=0,0E/10");
        Sheets.dueText("30 a name of one letter first",
            Sheets.ships(Sheets.of("sheet 9 9;fleet a;ship a 0 0 6 hull 5;ship b 8 8 5;")), "a=0,0W/5 b=8,8SW/20");
        Sheets.dueText("30 no ships", Sheets.ships(new FleetSheet()), "");
        FleetSheet y = Sheets.of("sheet 10 10;wind 0 5;fleet a;ship y 2 8 0 mass 5 hull 9;fleet b;ship x 2 5 4;ship z 9 9 0;");
        Sheets.sealAllAndRun(y);
        Sheets.dueText("30 without the sunk one", Sheets.ships(y), "x=2,7S/16 z=9,9N/20");
        StringBuilder text = new StringBuilder("sheet 30 30;fleet a;");
        StringBuilder want = new StringBuilder();
        for (int i = 0; i < 12; i++) {
            String name = "zzzzzzz" + (char) ('a' + i);
            text.append("ship ").append(name).append(" 29 ").append(10 + i).append(" 3 hull 99;");
            want.append(i > 0 ? " " : "").append(name).append("=29,").append(10 + i).append("SE/99");
        }
        Sheets.dueText("30 the longest text", Sheets.ships(Sheets.of(text.toString())), want.toString());
        Sheets.load(x, "sheet 10 10;fleet a;");
        Sheets.due("31 stays what was written", x.writtenByte(0), 'a');
        Sheets.due("30 in place of it", x.writeShips(), 0);
        Sheets.dueIndex("31 nothing left", () -> x.writtenByte(0));
    }

    private static void bytes() {
        FleetSheet x = Sheets.of("sheet 10 10;fleet a;ship q 2 5 5;");
        Sheets.dueIndex("31 none at first", () -> x.writtenByte(0));
        String want = "q=2,5SW/20";
        Sheets.due("30 length", x.writeShips(), 10);
        for (int i = 0; i < 10; i++) {
            Sheets.due("31 byte " + i, x.writtenByte(i), want.charAt(i));
        }
        Sheets.dueIndex("31 behind the end", () -> x.writtenByte(10));
        Sheets.dueIndex("31 -1", () -> x.writtenByte(-1));
    }

    private static boolean isNameOfFace(String name) {
        for (java.lang.reflect.Method m : FleetSheet.class.getMethods()) {
            if (m.getDeclaringClass() == FleetSheet.class && m.getName().equals(name)) {
                return true;
            }
        }
        return false;
    }

    private static void face() {
        int[] got = {FleetSheet.NONE, FleetSheet.SYNTAX_ERROR, FleetSheet.VALUE_ERROR, FleetSheet.TWICE,
            FleetSheet.MISFIT, FleetSheet.TOO_MANY, FleetSheet.UNKNOWN};
        for (int i = 0; i < got.length; i++) {
            Sheets.due("constant " + i, got[i], -1 - i);
        }
        int methods = 0;
        for (java.lang.reflect.Method m : FleetSheet.class.getDeclaredMethods()) {
            boolean isPublic = java.lang.reflect.Modifier.isPublic(m.getModifiers());
            methods += isPublic ? 1 : 0;
            Sheets.due("public or private: " + m, isPublic || java.lang.reflect.Modifier.isPrivate(m.getModifiers()), true);
        }
        Sheets.due("public methods", methods, 30);
        for (Class<?> inside : FleetSheet.class.getDeclaredClasses()) {
            for (java.lang.reflect.Method m : inside.getDeclaredMethods()) {
                Sheets.due("bears the name of a public one: " + m, isNameOfFace(m.getName()), false);
            }
        }
        int constants = 0;
        for (java.lang.reflect.Field f : FleetSheet.class.getDeclaredFields()) {
            boolean isPublic = java.lang.reflect.Modifier.isPublic(f.getModifiers());
            constants += isPublic ? 1 : 0;
            Sheets.due("public or private: " + f, isPublic || java.lang.reflect.Modifier.isPrivate(f.getModifiers()), true);
        }
        Sheets.due("public constants", constants, 7);
        Sheets.due("constructors", FleetSheet.class.getConstructors().length, 1);
    }
}
