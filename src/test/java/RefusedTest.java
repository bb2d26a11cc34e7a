import java.util.ArrayList;
import java.util.List;

/** Calls that throw: which exception, the one that is listed first where several apply; and they change nothing. */
public final class RefusedTest {
    private static final Class<IllegalArgumentException> ARGUMENT = IllegalArgumentException.class;
    private static final Class<IllegalStateException> STATE = IllegalStateException.class;
    private static final Class<IndexOutOfBoundsException> INDEX = IndexOutOfBoundsException.class;
    private static final int LOW = Integer.MIN_VALUE;
    private static final int HIGH = Integer.MAX_VALUE;

    private record Refusal(String name, Class<? extends RuntimeException> due, Scenes.Act act) {
    }

    private static final Check check = new Check("RefusedTest");

    public static void main(String[] args) {
        inEach("fresh", Scenes::fresh, argumentsOfFirstPitch());
        inEach("fresh", Scenes::fresh, anywhere());
        inEach("fresh", Scenes::fresh, withoutOperations());
        inEach("full", Scenes::full, argumentsOfFullDie());
        inEach("full", Scenes::full, anywhere());
        inEach("full", Scenes::full, withSixOperations());
        inEach("full", Scenes::full, withFullText());
        inEach("withoutPlan", Scenes::withoutPlan, withSixOperations());
        inEach("withoutPlan", Scenes::withoutPlan, anywhere());
        inEach("withoutPlan", Scenes::withoutPlan, withoutBestPlan());
        oneAfterTheOther();
        check.end();
    }

    private static void inEach(String name, Scenes.Scene scene, List<Refusal> refusals) {
        String due = View.withUndoAndText(scene.make());
        for (Refusal r : refusals) {
            StripDie x = scene.make();
            check.fails(name + ": " + r.name, r.due, () -> r.act.on(x));
            check.compare(name + ": nothing is changed by " + r.name, due, View.withUndoAndText(x));
        }
    }

    /** All of them on one object. */
    private static void oneAfterTheOther() {
        String due = View.withUndoAndText(Scenes.full());
        StripDie x = Scenes.full();
        for (Refusal r : withSixOperations()) {
            check.fails("one after the other: " + r.name, r.due, () -> r.act.on(x));
        }
        for (Refusal r : withFullText()) {
            check.fails("one after the other: " + r.name, r.due, () -> r.act.on(x));
        }
        check.compare("nothing is changed by all of them", due, View.withUndoAndText(x));
    }

    private static void add(List<Refusal> list, String name, Class<? extends RuntimeException> due, Scenes.Act act) {
        list.add(new Refusal(name, due, act));
    }

    /** What is out of its range whatever the state is. */
    private static List<Refusal> anywhere() {
        List<Refusal> list = new ArrayList<>();
        int[][] pitches = {{1, 4}, {11, 4}, {4, 1}, {4, 7}, {LOW, 4}, {HIGH, 4}, {4, LOW}, {4, HIGH}, {0, 0}};
        for (int[] p : pitches) {
            add(list, "2: begin " + p[0] + " " + p[1], ARGUMENT, x -> x.begin(p[0], p[1]));
        }
        for (int c : new int[] {-1, 3, LOW, HIGH}) {
            add(list, "4: setCarrier " + c, ARGUMENT, x -> x.setCarrier(c));
        }
        int[][] settings = {
            {-1, 1}, {5, 1}, {LOW, 1}, {HIGH, 1}, {0, 0}, {0, 1000}, {1, -1}, {1, 4}, {2, -1}, {2, 10},
            {3, -1}, {3, 51}, {4, -1}, {4, 51}, {0, LOW}, {1, HIGH}, {2, LOW}, {3, HIGH}, {4, LOW},
        };
        for (int[] s : settings) {
            add(list, "5: set " + s[0] + " " + s[1], ARGUMENT, x -> x.set(s[0], s[1]));
        }
        for (int s : new int[] {-1, 8, LOW, HIGH}) {
            add(list, "11: setPilot " + s + " true", ARGUMENT, x -> x.setPilot(s, true));
            add(list, "11: setPilot " + s + " false", ARGUMENT, x -> x.setPilot(s, false));
            add(list, "16: station " + s + " 0", ARGUMENT, x -> x.station(s, 0));
            add(list, "17: pitch " + s + " 0", ARGUMENT, x -> x.pitch(s, 0));
            add(list, "18: left " + s, ARGUMENT, x -> x.left(s));
        }
        for (int w : new int[] {-1, 4, LOW, HIGH}) {
            add(list, "16: station 0 " + w, ARGUMENT, x -> x.station(0, w));
            add(list, "16: station 7 " + w, ARGUMENT, x -> x.station(7, w));
            add(list, "17: pitch 0 " + w, ARGUMENT, x -> x.pitch(0, w));
            add(list, "17: pitch 7 " + w, ARGUMENT, x -> x.pitch(7, w));
        }
        for (int w : new int[] {-1, 6, LOW, HIGH}) {
            add(list, "14: cellSet " + w, ARGUMENT, x -> x.cellSet(w));
        }
        for (int w : new int[] {-1, 17, LOW, HIGH}) {
            add(list, "19: whole " + w, ARGUMENT, x -> x.whole(w));
        }
        for (int v : new int[] {-1, 128, LOW, HIGH}) {
            add(list, "27: type " + v, ARGUMENT, x -> x.type(v));
        }
        return list;
    }

    private static List<Refusal> argumentsOfFirstPitch() {
        return rectangles(6, 4, true);
    }

    /** With six operations, too, a rectangle that is wrong comes first. */
    private static List<Refusal> argumentsOfFullDie() {
        return rectangles(4, 3, true);
    }

    private static List<Refusal> rectangles(int columns, int rows, boolean marks) {
        List<Refusal> list = new ArrayList<>();
        int[][] wrong = {
            {-1, 0, 1, 1}, {columns, 0, 1, 1}, {LOW, 0, 1, 1}, {HIGH, 0, 1, 1},
            {0, -1, 1, 1}, {0, rows, 1, 1}, {0, LOW, 1, 1}, {0, HIGH, 1, 1},
            {0, 0, 0, 1}, {0, 0, -1, 1}, {0, 0, columns + 1, 1}, {0, 0, LOW, 1}, {0, 0, HIGH, 1},
            {0, 0, 1, 0}, {0, 0, 1, -1}, {0, 0, 1, rows + 1}, {0, 0, 1, LOW}, {0, 0, 1, HIGH},
            {columns - 1, 0, 2, 1}, {1, 0, columns, 1}, {0, rows - 1, 1, 2}, {0, 1, 1, rows},
            {-1, 0, columns, 1}, {0, -1, 1, rows}, {HIGH, 0, HIGH, 1}, {1, 0, HIGH, 1}, {0, HIGH, 1, HIGH},
            {LOW, 0, LOW, 1}, {2, 0, HIGH - 1, 1}, {0, 0, 0, 0},
        };
        for (int[] w : wrong) {
            String name = w[0] + " " + w[1] + " " + w[2] + " " + w[3];
            add(list, "3: mark " + name + " 1", ARGUMENT, x -> x.mark(w[0], w[1], w[2], w[3], 1));
            add(list, "6: addPunch " + name, ARGUMENT, x -> x.addPunch(w[0], w[1], w[2], w[3]));
            if (w[3] == 1) {
                add(list, "7: addBend " + name, ARGUMENT, x -> x.addBend(w[0], w[1], w[2]));
            }
        }
        for (int m : new int[] {-1, 3, LOW, HIGH}) {
            add(list, "3: mark 0 0 1 1 " + m, ARGUMENT, x -> x.mark(0, 0, 1, 1, m));
        }
        return list;
    }

    private static List<Refusal> withoutOperations() {
        List<Refusal> list = new ArrayList<>();
        for (int o : new int[] {0, -1, 1, LOW, HIGH}) {
            noOperation(list, o);
        }
        for (int o : new int[] {0, -2, 1, LOW, HIGH}) {
            add(list, "22: planned " + o, INDEX, x -> x.planned(o));
        }
        add(list, "30: undo of an empty stack", STATE, x -> x.undo());
        return list;
    }

    private static void noOperation(List<Refusal> list, int o) {
        add(list, "8: dropOperation " + o, INDEX, x -> x.dropOperation(o));
        add(list, "9: setStation " + o + " 0", INDEX, x -> x.setStation(o, 0));
        add(list, "9: setStation, both are wrong " + o, INDEX, x -> x.setStation(o, 8));
        add(list, "9: setStation, both are too low " + o, INDEX, x -> x.setStation(o, -2));
        add(list, "15: operation " + o + " 0", INDEX, x -> x.operation(o, 0));
        add(list, "15: operation, both are wrong " + o, INDEX, x -> x.operation(o, 8));
        add(list, "15: operation, both are too low " + o, INDEX, x -> x.operation(o, -1));
    }

    private static List<Refusal> withSixOperations() {
        List<Refusal> list = new ArrayList<>();
        add(list, "6: a seventh punch", STATE, x -> x.addPunch(0, 0, 1, 1));
        add(list, "6: a seventh punch over all", STATE, x -> x.addPunch(0, 0, x.whole(0), x.whole(1)));
        add(list, "6: a seventh punch that is wrong, too", ARGUMENT, x -> x.addPunch(0, 0, 0, 1));
        add(list, "7: a seventh bend", STATE, x -> x.addBend(0, 0, 1));
        add(list, "7: a seventh bend over a row", STATE, x -> x.addBend(0, x.whole(1) - 1, x.whole(0)));
        add(list, "7: a seventh bend that is wrong, too", ARGUMENT, x -> x.addBend(0, 0, 0));
        for (int o : new int[] {-1, 6, LOW, HIGH}) {
            noOperation(list, o);
        }
        for (int o : new int[] {-2, 6, LOW, HIGH}) {
            add(list, "22: planned " + o, INDEX, x -> x.planned(o));
        }
        for (int s : new int[] {-2, 8, LOW, HIGH}) {
            add(list, "9: setStation 0 " + s, ARGUMENT, x -> x.setStation(0, s));
            add(list, "9: setStation 5 " + s, ARGUMENT, x -> x.setStation(5, s));
        }
        for (int w : new int[] {-1, 8, LOW, HIGH}) {
            add(list, "15: operation 0 " + w, ARGUMENT, x -> x.operation(0, w));
            add(list, "15: operation 5 " + w, ARGUMENT, x -> x.operation(5, w));
        }
        return list;
    }

    private static List<Refusal> withFullText() {
        List<Refusal> list = new ArrayList<>();
        for (int v : new int[] {0, ' ', ';', 127}) {
            add(list, "27: type " + v, STATE, x -> x.type(v));
        }
        for (int v : new int[] {-1, 128, LOW, HIGH}) {
            add(list, "27: type, both are wrong " + v, ARGUMENT, x -> x.type(v));
        }
        return list;
    }

    /** NONE is answered only if no exception applies, so an operation that is not there throws here, too. */
    private static List<Refusal> withoutBestPlan() {
        List<Refusal> list = new ArrayList<>();
        add(list, "10: usePlan", STATE, x -> x.usePlan());
        add(list, "22: planned 6", INDEX, x -> x.planned(6));
        add(list, "22: planned -2", INDEX, x -> x.planned(-2));
        return list;
    }
}
