import java.util.ArrayList;
import java.util.List;

/** What saves a state and what does not; the saved states; the stack with none, up to four and more than four. */
public final class UndoableTest {
    private record Named(String name, Scenes.Act act) {
    }

    private static final Check check = new Check("UndoableTest");

    public static void main(String[] args) {
        savesOne("fresh", Scenes::fresh, 0, thatChangeNothing());
        savesOne("fresh", Scenes::fresh, 0, thatChange());
        savesOne("withoutPlan", Scenes::withoutPlan, 2, withOperations());
        savesOne("full", Scenes::full, 4, withOperations());
        savesOne("full", Scenes::full, 4, thatMayBeDoneAlways());
        savesOne("plain", Scenes::plain, 4, List.of(new Named("10: usePlan", x -> x.usePlan())));
        savesNone("fresh", Scenes::fresh, readers(0));
        savesNone("full", Scenes::full, readers(6));
        savesNone("withoutPlan", Scenes::withoutPlan, readers(6));
        textCallsSaveNone();
        faultyTextSavesNone();
        oneRunSavesOne();
        keepsTheLatestFour();
        undoIsNotUndoable();
        savesAgainAndAgain();
        check.end();
    }

    /** After the call the stack has one state more, at most 4; undo brings back all that was. */
    private static void savesOne(String scene, Scenes.Scene maker, int states, List<Named> calls) {
        String before = View.values(maker.make());
        List<String> below = contents(maker.make());
        check.is(scene + ": states", states, below.size());
        for (Named n : calls) {
            StripDie x = maker.make();
            n.act.on(x);
            String at = scene + ": " + n.name;
            check.is(at + ": states that are left", Math.min(states + 1, 4) - 1, () -> x.undo());
            check.compare(at + ": undone", before, View.values(x));
            // With four states before, the oldest one is dropped.
            List<String> kept = below.subList(0, Math.min(states, 3));
            check.compare(at + ": older states", kept.toString(), contents(x).toString());
        }
    }

    /** What each undo brings back, the latest first. */
    private static List<String> contents(StripDie x) {
        List<String> list = new ArrayList<>();
        for (String line : View.undoStates(x).split("\n")) {
            if (line.contains(" ")) {
                list.add(line.substring(line.indexOf(' ')));
            }
        }
        return list;
    }

    private static void savesNone(String scene, Scenes.Scene maker, List<Named> calls) {
        String due = View.withUndoAndText(maker.make());
        for (Named n : calls) {
            StripDie x = maker.make();
            n.act.on(x);
            check.compare(scene + ": " + n.name + " saves nothing", due, View.withUndoAndText(x));
        }
    }

    private static void add(List<Named> list, String name, Scenes.Act act) {
        list.add(new Named(name, act));
    }

    private static List<Named> thatChangeNothing() {
        List<Named> list = new ArrayList<>();
        add(list, "2: begin as it is", x -> x.begin(6, 4));
        add(list, "3: mark neither as neither", x -> x.mark(0, 0, 6, 4, 0));
        add(list, "4: setCarrier as it is", x -> x.setCarrier(0));
        add(list, "5: set as it is", x -> x.set(0, 30));
        add(list, "10: usePlan without operations", x -> x.usePlan());
        add(list, "11: setPilot where none is", x -> x.setPilot(7, false));
        add(list, "13: emptyPress of an empty press", x -> x.emptyPress());
        add(list, "29: runCommands of an empty text", x -> x.runCommands());
        return list;
    }

    private static List<Named> thatChange() {
        List<Named> list = new ArrayList<>();
        add(list, "2: begin", x -> x.begin(10, 6));
        add(list, "3: mark", x -> x.mark(0, 0, 6, 4, 1));
        add(list, "4: setCarrier", x -> x.setCarrier(2));
        add(list, "5: set 0", x -> x.set(0, 999));
        add(list, "5: set 1", x -> x.set(1, 3));
        add(list, "5: set 2", x -> x.set(2, 9));
        add(list, "5: set 3", x -> x.set(3, 50));
        add(list, "5: set 4", x -> x.set(4, 50));
        add(list, "6: addPunch", x -> x.addPunch(0, 0, 6, 4));
        add(list, "7: addBend", x -> x.addBend(0, 3, 6));
        add(list, "11: setPilot", x -> x.setPilot(0, true));
        add(list, "12: stroke", x -> x.stroke());
        return list;
    }

    private static List<Named> withOperations() {
        List<Named> list = new ArrayList<>();
        add(list, "8: dropOperation 0", x -> x.dropOperation(0));
        add(list, "8: dropOperation 5", x -> x.dropOperation(5));
        add(list, "9: setStation", x -> x.setStation(2, 7));
        add(list, "9: setStation to none", x -> x.setStation(1, StripDie.NONE));
        add(list, "9: setStation as it is", x -> x.setStation(0, x.operation(0, 6)));
        add(list, "2: begin", x -> x.begin(2, 2));
        add(list, "12: stroke", x -> x.stroke());
        add(list, "13: emptyPress", x -> x.emptyPress());
        return list;
    }

    private static List<Named> thatMayBeDoneAlways() {
        List<Named> list = new ArrayList<>();
        add(list, "3: mark", x -> x.mark(0, 0, 4, 3, 2));
        add(list, "3: mark as it is", x -> x.mark(1, 1, 2, 2, 1));
        add(list, "4: setCarrier", x -> x.setCarrier(1));
        add(list, "5: set", x -> x.set(4, 0));
        add(list, "5: set as it is", x -> x.set(0, 40));
        add(list, "10: usePlan", x -> x.usePlan());
        add(list, "11: setPilot away", x -> x.setPilot(7, false));
        add(list, "11: setPilot as it is", x -> x.setPilot(0, true));
        add(list, "29: runCommands", x -> x.runCommands());
        return list;
    }

    private static List<Named> readers(int operations) {
        List<Named> list = new ArrayList<>();
        for (int w = 0; w <= 5; w++) {
            final int what = w;
            add(list, "14: cellSet " + w, x -> x.cellSet(what));
        }
        for (int w = 0; w <= 16; w++) {
            final int what = w;
            add(list, "19: whole " + w, x -> x.whole(what));
        }
        for (int o = 0; o < operations; o++) {
            final int operation = o;
            add(list, "15: operation " + o, x -> x.operation(operation, 7));
            add(list, "22: planned " + o, x -> x.planned(operation));
        }
        for (int s = 0; s <= 7; s++) {
            final int station = s;
            add(list, "16: station " + s, x -> x.station(station, 3));
            add(list, "17: pitch " + s, x -> x.pitch(station, 3));
            add(list, "18: left " + s, x -> x.left(station));
        }
        add(list, "20: dieFault", x -> x.dieFault());
        add(list, "21: planFault", x -> x.planFault());
        add(list, "22: planned NONE", x -> x.planned(StripDie.NONE));
        add(list, "23: leastLimit", x -> x.leastLimit());
        add(list, "24: fitsTwice", x -> x.fitsTwice());
        add(list, "25: scrap false", x -> x.scrap(false));
        add(list, "25: scrap true", x -> x.scrap(true));
        add(list, "26: strokesToGood", x -> x.strokesToGood());
        add(list, "31: digest", x -> x.digest());
        return list;
    }

    private static void textCallsSaveNone() {
        StripDie x = Scenes.withoutPlan();
        x.clearCommands();
        x.type('p');
        x.clearCommands();
        x.clearCommands();
        check.is("27, 28: no state more", 1, () -> x.undo());
        check.is("27, 28: the text is not undone", 0, () -> x.whole(16));
        x.type(' ');
        check.is("27: the next one", 0, () -> x.undo());
        check.is("27: a text stays", 1, () -> x.whole(16));
    }

    private static void faultyTextSavesNone() {
        StripDie x = Scenes.withoutPlan();
        String before = View.undoStates(Scenes.withoutPlan());
        x.type('p');
        check.is("29: a word that is none, behind 25 bytes", -10 - 25, () -> x.runCommands());
        x.clearCommands();
        Scenes.type(x, "place 1 2; plan; pilot 1;");
        check.compare("29: a text with a fault saves nothing", before, View.undoStates(x));
    }

    private static void oneRunSavesOne() {
        StripDie x = new StripDie();
        Scenes.type(x, "pitch 3 3;part 0 0 1 1;link 0 2 1 1;punch 1 1 1 1;bend 0 2 1;place 0 0;plan;pilot 4;stroke 9;");
        String before = View.values(x);
        check.is("29: all nine", 9, () -> x.runCommands());
        check.is("29: its commands save none", 0, () -> x.undo());
        check.compare("29: the state from before it", before, View.values(x));
        check.fails("29: no more", IllegalStateException.class, () -> x.undo());
    }

    private static void keepsTheLatestFour() {
        for (int saves = 0; saves <= 9; saves++) {
            StripDie x = new StripDie();
            for (int limit = 1; limit <= saves; limit++) {
                x.set(0, limit);
            }
            int kept = Math.min(saves, 4);
            for (int i = 1; i <= kept; i++) {
                final int left = kept - i;
                int limit = saves - i == 0 ? 30 : saves - i;
                check.is("30: " + saves + " saves, undo " + i, left, () -> x.undo());
                check.is("30: " + saves + " saves, state " + i, limit, () -> x.whole(3));
            }
            check.fails("30: " + saves + " saves, no more", IllegalStateException.class, () -> x.undo());
            check.is("30: " + saves + " saves, stays", saves - kept == 0 ? 30 : saves - kept, () -> x.whole(3));
        }
    }

    private static void undoIsNotUndoable() {
        StripDie x = new StripDie();
        x.set(1, 1);
        x.set(1, 2);
        check.is("30: one is left", 1, () -> x.undo());
        check.is("30: none is left", 0, () -> x.undo());
        check.fails("30: an undo saves nothing", IllegalStateException.class, () -> x.undo());
        check.is("30: the gap as at first", 0, () -> x.whole(4));
    }

    /** 512 calls, each third of them an undo: the states that are kept stay right for long. */
    private static void savesAgainAndAgain() {
        StripDie x = new StripDie();
        int[] limits = new int[512];
        int top = 0;
        int bottom = 0;
        int calls = 0;
        int limit = 30;
        for (int i = 0; calls + 3 <= 512; i++) {
            final int next = 1 + i;
            final int was = limit;
            if (i % 3 < 2) {
                check.is("30: set " + i, was, () -> x.set(0, next));
                limits[top] = limit;
                top++;
                bottom = Math.max(bottom, top - 4);
                limit = next;
            } else if (top > bottom) {
                top--;
                limit = limits[top];
                final int left = top - bottom;
                check.is("30: undo " + i, left, () -> x.undo());
            }
            final int now = limit;
            check.is("30: limit " + i, now, () -> x.whole(3));
            calls += 2;
        }
    }
}
