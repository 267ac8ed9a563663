import java.util.ArrayList;
import java.util.List;
import java.util.function.Consumer;

/** Term 5, promises 27 to 29: what can be undone, what undo and restore bring back, and what they leave. */
public final class UndoTest {
    private static final String START = "sheet 10 10;wind 0 5;shift 1 2 9;fleet a;ship x 2 5 4 hull 60 stiff 0;fleet b;ship y 2 8 0 mass 5 hull 50;";
    private static final String OTHER = "sheet 20 5;wind 6 6;shift 0 3 3;fleet q;fleet r;ship z 1 1 1 sail 9;fleet s;ship w 2 1 3 hull 9;";

    public static void main(String[] args) {
        eachPlayIsUndone();
        eachPlayIsSaved();
        ninthChange();
        undoneAndDoneAgain();
        nothingIsAnotherOne();
        onlyThatSucceed();
        whatIsLeft();
        slots();
        savedStays();
        whatIsSavedCannotBeUndone();
        turnThatIsRestored();
        Sheets.finish();
    }

    /** Changes of all kinds; each one succeeds behind those ahead of it. */
    private static List<Consumer<FleetSheet>> play() {
        List<Consumer<FleetSheet>> all = new ArrayList<>();
        all.add(x -> Sheets.load(x, START));
        all.add(x -> Sheets.write(x, 1, "y ahhlrh;"));
        all.add(x -> x.seal(0, 999999));
        all.add(x -> x.seal(1, 0));
        all.add(x -> x.run());
        all.add(x -> Sheets.write(x, 1, "y hhhhhh;"));
        all.add(x -> x.setWind(7, 9));
        all.add(x -> x.seal(1, 5));
        all.add(x -> x.seal(0, 6));
        all.add(x -> x.run());
        all.add(x -> Sheets.write(x, 1, "y lllrrr;"));
        all.add(x -> Sheets.load(x, OTHER));
        all.add(x -> x.seal(1, 77));
        all.add(x -> x.seal(2, 77));
        all.add(x -> x.run());
        all.add(x -> x.setWind(0, 0));
        all.add(x -> x.seal(1, 78));
        all.add(x -> x.seal(2, 79));
        all.add(x -> x.run());
        return all;
    }

    private static FleetSheet played(int changes) {
        FleetSheet x = new FleetSheet();
        List<Consumer<FleetSheet>> all = play();
        for (int i = 0; i < changes; i++) {
            all.get(i).accept(x);
        }
        return x;
    }

    private static void eachPlayIsUndone() {
        int most = play().size();
        for (int changes = 0; changes <= most; changes++) {
            for (int undone = 1; undone <= Math.min(8, changes); undone++) {
                FleetSheet x = played(changes);
                for (int i = 1; i <= undone; i++) {
                    Sheets.due("27 can still be undone", x.undo(), Math.min(8, changes) - i);
                }
                Sheets.dueText("27 " + undone + " of " + changes + " undone", Sheets.told(x), Sheets.told(played(changes - undone)));
            }
        }
        Sheets.due("turn 0 has rams", played(5).count(7) > 0, true);
        Sheets.due("turn 1 has others", played(10).count(7) > 0 && played(10).ram(0, 0) != played(5).ram(0, 0), true);
    }

    private static void eachPlayIsSaved() {
        int most = play().size();
        for (int saved = 0; saved <= most; saved++) {
            for (int more = saved; more <= most; more += 4) {
                FleetSheet x = played(saved);
                x.save(1);
                for (int i = saved; i < more; i++) {
                    play().get(i).accept(x);
                }
                String ahead = Sheets.told(x);
                Sheets.due("29 the turn at hand then", x.restore(1), played(saved).count(4));
                Sheets.dueText("29 saved at " + saved + ", restored at " + more, Sheets.told(x), Sheets.told(played(saved)));
                Sheets.due("27 the restore is undone", x.undo(), Math.min(8, more + 1) - 1);
                Sheets.dueText("27 the restore is undone", Sheets.told(x), ahead);
            }
        }
    }

    private static void ninthChange() {
        for (int changes = 7; changes <= 10; changes++) {
            FleetSheet x = played(changes);
            int undone = Math.min(8, changes);
            for (int i = 1; i <= undone; i++) {
                Sheets.due("27 left of " + changes, x.undo(), undone - i);
            }
            Sheets.dueState("5 older ones cannot any more", () -> x.undo());
            Sheets.dueText("5 they stay", Sheets.told(x), Sheets.told(played(changes - undone)));
        }
    }

    private static void undoneAndDoneAgain() {
        FleetSheet x = played(10);
        for (int i = 0; i < 5; i++) {
            x.undo();
        }
        for (int i = 5; i < 8; i++) {
            play().get(i).accept(x);
        }
        Sheets.due("27 three and three, less one", x.undo(), 5);
        Sheets.dueText("27 the latest that has not been undone", Sheets.told(x), Sheets.told(played(7)));
        for (int left = 4; left >= 0; left--) {
            Sheets.due("27 left", x.undo(), left);
        }
        Sheets.dueText("27 the oldest of them", Sheets.told(x), Sheets.told(played(2)));
        Sheets.dueState("5 what was too old once stays so", () -> x.undo());
        play().get(2).accept(x);
        Sheets.due("27 a new one", x.undo(), 0);
    }

    private static void nothingIsAnotherOne() {
        FleetSheet x = new FleetSheet();
        Sheets.load(x, "sheet 10 10;fleet a;");
        x.setWind(0, 5);
        x.write(0);
        x.save(0);
        x.restore(0);
        Sheets.due("5 four changes, though nothing is another one", x.undo(), 3);
        Sheets.due("5 restore", x.undo(), 2);
        Sheets.due("5 write", x.undo(), 1);
        Sheets.due("5 setWind", x.undo(), 0);
        Sheets.dueState("5 and load", () -> x.undo());
    }

    private static void onlyThatSucceed() {
        FleetSheet x = Sheets.of(START);
        x.seal(0, 1);
        Runnable[] refusals = {() -> x.run(), () -> x.seal(0, 1), () -> x.seal(2, 1), () -> x.seal(1, -1), () -> x.write(0), () -> x.write(2),
            () -> x.setWind(8, 1), () -> x.setWind(1, 10), () -> x.restore(0), () -> x.restore(2), () -> x.save(2)};
        for (Runnable refusal : refusals) {
            try {
                refusal.run();
                Sheets.due("6 a refusal", 0, 1);
            } catch (RuntimeException e) {
                Sheets.due("6 a refusal", 1, 1);
            }
        }
        Sheets.load(x, "sheet 10 10;");
        Sheets.write(x, 1, "y b;");
        x.save(1);
        x.writeShips();
        x.append(0, 0, 0, 0, 0);
        x.spares(0, 0);
        x.bestWind(0);
        Sheets.due("5 load and seal alone are changes", x.undo(), 1);
    }

    private static void whatIsLeft() {
        FleetSheet x = Sheets.of(START);
        x.save(0);
        x.setWind(1, 1);
        Sheets.ships(x);
        Sheets.write(x, 0, "x ab;");
        Sheets.feed(x, "x hhh;");
        x.setWind(2, 2);
        x.undo();
        x.undo();
        x.undo();
        Sheets.due("5 no ships", x.count(3), 0);
        Sheets.due("5 not the position of the error", x.errorPosition(), 3);
        Sheets.due("5 not the written text", x.writtenByte(0), 'x');
        Sheets.due("5 not the text buffer", x.append(0, 0, 0, 0, 0), 6);
        Sheets.due("5 not what was saved", x.restore(0), 0);
        Sheets.dueText("5 it has the ships", Sheets.told(x), Sheets.told(Sheets.of(START)));
        Sheets.due("29 restore leaves the position", x.errorPosition(), 3);
        Sheets.due("29 and the written text", x.writtenByte(0), 'x');
        Sheets.due("29 and the buffer", x.write(0), 1);
        Sheets.due("23 it is read", x.fleet(0, 4), 3);
    }

    private static void slots() {
        FleetSheet x = Sheets.of(START);
        x.save(1);
        Sheets.dueState("29 nothing in slot 0", () -> x.restore(0));
        Sheets.load(x, OTHER);
        x.save(0);
        x.setWind(7, 7);
        x.restore(1);
        Sheets.dueText("29 slot 1", Sheets.told(x), Sheets.told(Sheets.of(START)));
        x.restore(0);
        Sheets.dueText("29 slot 0", Sheets.told(x), Sheets.told(Sheets.of(OTHER)));
        x.setWind(4, 4);
        String blown = Sheets.told(x);
        x.save(0);
        x.restore(1);
        x.restore(0);
        Sheets.dueText("28 in place of what was saved there", Sheets.told(x), blown);
    }

    /** What is saved is no one's to change: neither what is done ahead of a restore nor behind it. */
    private static void savedStays() {
        FleetSheet x = played(4);
        String saved = Sheets.told(x);
        x.save(0);
        x.run();
        x.restore(0);
        Sheets.dueText("29 ahead of the run", Sheets.told(x), saved);
        x.run();
        Sheets.load(x, OTHER);
        x.setWind(1, 2);
        x.restore(0);
        Sheets.dueText("29 which stays saved", Sheets.told(x), saved);
    }

    private static void whatIsSavedCannotBeUndone() {
        FleetSheet x = played(5);
        x.save(0);
        for (int i = 0; i < 5; i++) {
            x.undo();
        }
        Sheets.due("29 turn 1", x.restore(0), 1);
        Sheets.due("28 but not what can be undone", x.undo(), 0);
        Sheets.dueState("28 nothing more", () -> x.undo());
        x.restore(0);
        x.restore(0);
        x.restore(0);
        Sheets.due("29 restores are changes", x.undo(), 2);
    }

    private static void turnThatIsRestored() {
        FleetSheet x = played(10);
        Sheets.due("turn 2", x.count(4), 2);
        x.save(0);
        Sheets.load(x, OTHER);
        Sheets.dueIndex("3 no log", () -> x.check(0, 0, 999999));
        Sheets.due("29 turn 2", x.restore(0), 2);
        Sheets.due("29 its log", x.check(0, 0, 999999), true);
        Sheets.due("29 its log", x.check(1, 0, 6), true);
        Sheets.due("29 its letters", x.logged(1, 1, 5), 4);
        Sheets.due("29 its shift", x.shift(1, 1), 9);
    }
}
