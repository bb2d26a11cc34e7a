import java.math.BigInteger;
import java.util.ArrayList;
import java.util.List;

/** Promises 27 to 31: command texts, undo and digest. */
public final class TextTest {
    private static final Class<IllegalArgumentException> ARGUMENT = IllegalArgumentException.class;
    private static final Class<IllegalStateException> STATE = IllegalStateException.class;
    private static final int NONE = StripDie.NONE;

    private static final Check check = new Check("TextTest");

    public static void main(String[] args) {
        promise27();
        promise28();
        promise29();
        promise29Commands();
        promise29StopsAtExceptions();
        promise29Ranges();
        promise29Faults();
        promise29Undo();
        promise30();
        promise30Text();
        promise31();
        promise31Literal();
        promise31Twice();
        promise31Wraps();
        check.end();
    }

    private static void type(StripDie x, String text) {
        x.clearCommands();
        for (int i = 0; i < text.length(); i++) {
            x.type(text.charAt(i));
        }
    }

    private static void run(StripDie x, String text, long due) {
        type(x, text);
        check.is("29: run <" + text + ">", due, () -> x.runCommands());
        check.is("29: the text stays <" + text + ">", text.length(), () -> x.whole(16));
    }

    private static void promise27() {
        StripDie x = new StripDie();
        int[] wrong = {-1, 128, Integer.MIN_VALUE, Integer.MAX_VALUE};
        for (int w : wrong) {
            check.fails("27: type " + w, ARGUMENT, () -> x.type(w));
        }
        check.is("27: least", 1, () -> x.type(0));
        check.is("27: greatest", 2, () -> x.type(127));
        for (int i = 3; i <= 150; i++) {
            final int length = i;
            check.is("27: length " + i, length, () -> x.type(' '));
        }
        check.fails("27: full", STATE, () -> x.type(' '));
        check.fails("27: full and out of range", ARGUMENT, () -> x.type(128));
        check.is("27: whole", 150, () -> x.whole(16));
        check.fails("27: not undoable", STATE, () -> x.undo());
    }

    private static void promise28() {
        StripDie x = new StripDie();
        check.is("28: empty", 0, () -> x.clearCommands());
        type(x, "plan");
        check.is("28: the length that it had", 4, () -> x.clearCommands());
        check.is("28: is empty then", 0, () -> x.whole(16));
        check.is("28: again", 0, () -> x.clearCommands());
        check.fails("28: not undoable", STATE, () -> x.undo());
        type(x, " ");
        check.is("28: the old bytes are gone", 0, () -> x.runCommands());
    }

    private static void promise29() {
        StripDie x = new StripDie();
        check.is("29: an empty text", 0, () -> x.runCommands());
        check.is("29: saves a state", 0, () -> x.undo());
        run(x, "   ", 0);
        run(x, "plan;", 1);
        run(x, "  plan  ;  ", 1);
        run(x, "plan;plan ; plan;", 3);
        StringBuilder full = new StringBuilder();
        for (int i = 0; i < 30; i++) {
            full.append("plan;");
        }
        run(x, full.toString(), 30);
        run(x, "stroke 1;" + " ".repeat(141), 1);
    }

    private static void promise29Commands() {
        asByCalls(x -> 0, "pitch 7 5; part 1 1 3 2; link 4 1 1 1;", 3, TextTest::layOut);
        asByCalls(TextTest::layOut, "punch 0 1 1 3; punch 005 2  2   1 ;bend 1 2 3;", 3, TextTest::addThree);
        asByCalls(TextTest::withThree, "place 1 7;pilot 6;stroke 3;", 3, TextTest::placeAndStroke);
        asByCalls(TextTest::withStrokes, "plan;stroke 50;", 2, x -> x.usePlan() + strokes(x, 50));
        StripDie y = new StripDie();
        withStrokes(y);
        run(y, "plan;stroke 50;", 2);
        check.is("29: strokes", 53, () -> y.whole(11));
        check.is("29: four states", 3, () -> y.undo());
    }

    private static long layOut(StripDie x) {
        return x.begin(7, 5) + x.mark(1, 1, 3, 2, 1) + x.mark(4, 1, 1, 1, 2);
    }

    private static long addThree(StripDie x) {
        return x.addPunch(0, 1, 1, 3) + x.addPunch(5, 2, 2, 1) + x.addBend(1, 2, 3);
    }

    private static long withThree(StripDie x) {
        return layOut(x) + addThree(x);
    }

    private static long placeAndStroke(StripDie x) {
        return x.setStation(1, 7) + x.setPilot(6, true) + strokes(x, 3);
    }

    private static long withStrokes(StripDie x) {
        return withThree(x) + placeAndStroke(x);
    }

    private static long strokes(StripDie x, int strokes) {
        long answers = 0;
        for (int i = 0; i < strokes; i++) {
            answers += x.stroke();
        }
        return answers;
    }

    /** The text does what the calls do: all values but those of the text and of the undo stack are the same. */
    private static void asByCalls(Scenes.Act before, String text, long commands, Scenes.Act calls) {
        StripDie x = new StripDie();
        StripDie y = new StripDie();
        before.on(x);
        before.on(y);
        run(x, text, commands);
        calls.on(y);
        x.clearCommands();
        check.is("29: the same as by calls <" + text + ">", literal(y, 0), () -> literal(x, 0));
    }

    private static void promise29StopsAtExceptions() {
        StripDie x = new StripDie();
        run(x, "pilot 1; pitch 11 4; pilot 2;", 1);
        check.is("29: the one before is done, the one behind is not", 1, () -> x.whole(15));
        run(x, "pitch 2 2; part 0 0 3 1; pilot 3;", 1);
        check.is("29: columns", 2, () -> x.whole(0));
        run(x, "link 0 0 1 3;", 0);
        run(x, "punch 0 0 0 1;", 0);
        run(x, "bend 1 0 2;", 0);
        run(x, "place 0 0;", 0);
        run(x, "punch 0 1 1 1; place 0 8;", 1);
        run(x, "place 0 7; place 1 0;", 1);
        check.is("29: placed", 7, () -> x.operation(0, 6));
        run(x, "pilot 8;", 0);
        run(x, "stroke 0;", 0);
        run(x, "stroke 51;", 0);
        run(x, "stroke 999;", 0);
        run(x, "stroke 1; stroke 50;", 2);
        check.is("29: strokes", 51, () -> x.whole(11));
        x.set(0, 3);
        run(x, "pilot 1; plan; pilot 2;", 1);
        check.is("29: the plan stays", 7, () -> x.operation(0, 6));
        run(x, "bend 0 0 1; bend 0 0 1; bend 0 0 1; bend 0 0 1; bend 0 0 1; bend 0 0 1;", 5);
        check.is("29: six operations", 6, () -> x.whole(8));
        run(x, "punch 0 0 1 1;", 0);
    }

    private static void promise29Ranges() {
        StripDie x = new StripDie();
        run(x, "pitch 1 2;", 0);
        run(x, "pitch 2 1;", 0);
        run(x, "pitch 2 7;", 0);
        run(x, "pitch 10 6;", 1);
        check.is("29: columns", 10, () -> x.whole(0));
        check.is("29: rows", 6, () -> x.whole(1));
        run(x, "part 0 0 10 6;", 1);
        run(x, "part 999 999 999 999;", 0);
        run(x, "link 9 5 1 1;", 1);
        check.is("29: a link", 1L << 59, () -> x.cellSet(1));
        run(x, "link 9 5 1 2;", 0);
        run(x, "punch 9 5 1 1;", 1);
        run(x, "punch 9 5 2 1;", 0);
        run(x, "bend 9 5 1;", 1);
        run(x, "bend 9 5 0;", 0);
        run(x, "place 1 0;", 1);
        run(x, "place 2 0;", 0);
        run(x, "pilot 0;", 1);
        run(x, "pilot 7;", 1);
        check.is("29: pilots", 2, () -> x.whole(15));
        run(x, "pilot 7;", 1);
        check.is("29: never takes a pilot away", 2, () -> x.whole(15));
    }

    private static void promise29Faults() {
        String[] texts = {
            ";", "1", "P", "Plan;", " _", "\t", "plan;;", "plan;1",
            "pla", "pla;", "plans;", "plan stroke 1;", "planX;", "plan1;", "plan", "plan ", "plan 1;",
            "a", "plan;x", "plan; xyz ;", "pitchpitch 2 2;", "strokes 1;", "stroke", "stroke ", "stroke;",
            "stroke1;", "stroke 1", "stroke 1 ", "stroke 1234;", "stroke 0001;", "stroke 001;", "stroke 1 2;",
            "stroke 1x;", "stroke -1;", "stroke a;", "pitch 2;", "pitch 2 ;", "pitch 2 3 4;", "pitch 2  ",
            "pitch 22222 2;", "bend 1 1;", "bend 1 1 1 1;", "place 1;", "pilot;", "part 1 1 1;", "part 1 1 1 1",
            "part 1 1 1 1 1;", "link 1 1 1;", "punch 1 1 1;", "plan; plan", "plan plan;", "plan;\n", "stroke 1\n;",
            "stroke\t1;", "plan;\u0000", "plan\u007f", "p", " pl an;",
            "planz;", "plana;", "plan`;", "plan{;", "stroke 1/;", "stroke 1:;", "stroke /;", "stroke 09 9;",
        };
        int[] faults = {
            0, 0, 0, 0, 1, 0, 5, 5,
            0, 0, 0, 5, 4, 4, 4, 5, 5,
            0, 5, 6, 0, 0, 6, 7, 6,
            6, 8, 9, 10, 10, NONE, 9,
            8, 7, 7, 7, 8, 10, 9,
            9, 8, 11, 7, 5, 10, 12,
            13, 10, 11, 10, 5, 5, 8,
            6, 5, 4, 0, 1,
            0, 0, 4, 4, 8, 8, 7, 10,
        };
        check.is("29: faults", texts.length, faults.length);
        for (int i = 0; i < texts.length; i++) {
            StripDie x = new StripDie();
            x.setPilot(0, true);
            if (faults[i] == NONE) {
                run(x, texts[i], 1);
            } else {
                type(x, texts[i]);
                long digest = x.digest();
                run(x, texts[i], -10 - faults[i]);
                check.is("29: nothing is done <" + texts[i] + ">", digest, () -> x.digest());
            }
        }
        StripDie x = new StripDie();
        type(x, "plan;".repeat(29) + "plan ");
        check.is("29: a full text that ends too soon", -160, () -> x.runCommands());
        type(x, "plan;".repeat(29) + "strok");
        check.is("29: a full text with a wrong word", -155, () -> x.runCommands());
    }

    private static void promise29Undo() {
        StripDie x = new StripDie();
        x.setPilot(0, true);
        run(x, "pilot 1; pilot 2; pilot 3; stroke 9; pilot 9;", 4);
        check.is("29: one state is saved", 1, () -> x.undo());
        check.is("29: the one from before it", 1, () -> x.whole(15));
        check.is("29: strokes undone", 0, () -> x.whole(11));
        run(x, "pilot 9;", 0);
        check.is("29: saved, though nothing is done", 1, () -> x.undo());
        run(x, "pilot", -15);
        check.is("29: a text with a fault saves nothing", 0, () -> x.undo());
        check.is("29: first state", 0, () -> x.whole(15));
    }

    private static void promise30() {
        StripDie x = new StripDie();
        check.fails("30: empty", STATE, () -> x.undo());
        for (int limit = 1; limit <= 6; limit++) {
            x.set(0, limit);
        }
        for (int left = 3; left >= 0; left--) {
            final int states = left;
            check.is("30: states left", states, () -> x.undo());
            check.is("30: limit", states + 2, () -> x.whole(3));
        }
        check.fails("30: older ones are dropped", STATE, () -> x.undo());
        check.is("30: nothing is changed by that", 2, () -> x.whole(3));
        x.set(0, 7);
        x.set(0, 8);
        x.undo();
        x.set(0, 9);
        check.is("30: a new one behind an undo", 1, () -> x.undo());
        check.is("30: brings back", 7, () -> x.whole(3));
        check.is("30: the last one", 0, () -> x.undo());
        check.is("30: brings back, too", 2, () -> x.whole(3));
    }

    private static void promise30Text() {
        StripDie x = new StripDie();
        x.setCarrier(1);
        type(x, "pilot 5;");
        x.undo();
        check.is("30: the text is not undone", 8, () -> x.whole(16));
        check.is("30: the carrier is", 0, () -> x.whole(2));
        check.is("30: the text runs", 1, () -> x.runCommands());
        x.clearCommands();
        x.undo();
        check.is("30: nor is the clearing", 0, () -> x.whole(16));
        // A state that was brought back does not change with what comes after.
        x.addBend(1, 1, 2);
        x.setStation(0, 0);
        x.stroke();
        x.undo();
        x.stroke();
        x.mark(0, 0, 6, 4, 1);
        x.dropOperation(0);
        x.undo();
        x.undo();
        check.is("30: bends", 0b1, () -> x.pitch(0, 0));
        x.undo();
        check.is("30: an empty press", 0, () -> x.whole(10));
        check.is("30: the station", 0, () -> x.operation(0, 6));
    }

    private static void promise31() {
        StripDie y = new StripDie();
        check.is("31: a new object", literal(y, 0), () -> y.digest());
        y.begin(5, 4);
        check.is("31: begun", literal(y, 1), () -> y.digest());
        StripDie x = new StripDie();
        x.begin(5, 4);
        x.mark(1, 1, 3, 3, 1);
        x.mark(2, 2, 1, 1, 2);
        x.addPunch(0, 1, 1, 3);
        x.addBend(1, 3, 3);
        x.addPunch(4, 2, 1, 2);
        x.setPilot(2, true);
        x.usePlan();
        x.stroke();
        x.stroke();
        x.type('x');
        long due = literal(x, 4);
        check.is("31: with all", due, () -> x.digest());
        check.is("31: twice the same", due, () -> x.digest());
        x.undo();
        check.is("31: undone", literal(x, 3), () -> x.digest());
    }

    /** A number that is due in the tests under ../shared/tests. */
    private static void promise31Literal() {
        StripDie x = new StripDie();
        x.stroke();
        x.addPunch(0, 0, 1, 1);
        for (int i = 0; i < 5; i++) {
            x.addBend(0, 1, 1);
        }
        for (int i = 0; i < 4; i++) {
            x.undo();
        }
        check.is("31: a known one", -6875053768279979476L, () -> x.digest());
    }

    /** Two parts in a pitch: the last three values differ from each other. */
    private static void promise31Twice() {
        StripDie x = new StripDie();
        x.mark(0, 1, 1, 1, 1);
        check.is("31: two parts fit", 1, () -> x.fitsTwice());
        check.is("31: scrap of one and of two", 958_916, () -> 1000L * x.scrap(false) + x.scrap(true));
        check.is("31: with them", literal(x, 1), () -> x.digest());
        x.mark(1, 2, 1, 1, 1);
        check.is("31: they do not fit", literal(x, 2), () -> x.digest());
        x.mark(0, 1, 3, 2, 1);
        x.setCarrier(2);
        x.setPilot(7, true);
        check.is("31: four states", literal(x, 4), () -> x.digest());
    }

    /** The sum with no bound, of which a long keeps the lowest 64 bits. */
    private static void promise31Wraps() {
        StripDie x = Scenes.full();
        List<Long> values = valuesOf(x, 4);
        BigInteger h = BigInteger.valueOf(12958);
        for (long v : values) {
            h = h.multiply(BigInteger.valueOf(31)).add(BigInteger.valueOf(v));
        }
        check.is("31: far above a long", 1, h.bitLength() > 600 ? 1 : 0);
        check.is("31: wrapped", h.longValue(), () -> x.digest());
    }

    private static List<Long> valuesOf(StripDie x, long states) {
        List<Long> values = new ArrayList<>();
        values.add(states);
        for (int what = 0; what <= 16; what++) {
            values.add((long) x.whole(what));
        }
        for (int what = 0; what <= 5; what++) {
            values.add(x.cellSet(what));
        }
        for (int o = 0; o < 6; o++) {
            for (int what = 0; what <= 7; what++) {
                values.add((long) x.operation(o, what));
            }
        }
        for (int s = 0; s <= 7; s++) {
            for (int what = 0; what <= 3; what++) {
                values.add((long) x.station(s, what));
            }
            for (int what = 0; what <= 3; what++) {
                values.add((long) x.pitch(s, what));
            }
            values.add(x.left(s));
        }
        int[] last = {x.dieFault(), x.planFault(), x.planned(NONE), x.fitsTwice(), x.scrap(false), x.scrap(true)};
        for (int v : last) {
            values.add((long) v);
        }
        return values;
    }

    private static long literal(StripDie x, int states) {
        long h = 12958;
        h = 31 * h + states;
        for (int what = 0; what <= 16; what++) {
            h = 31 * h + x.whole(what);
        }
        for (int what = 0; what <= 5; what++) {
            h = 31 * h + x.cellSet(what);
        }
        for (int o = 0; o < x.whole(8); o++) {
            for (int what = 0; what <= 7; what++) {
                h = 31 * h + x.operation(o, what);
            }
        }
        for (int s = 0; s <= 7; s++) {
            h = 31 * (31 * h + x.station(s, 0)) + x.station(s, 1);
            h = 31 * (31 * h + x.station(s, 2)) + x.station(s, 3);
            h = 31 * (31 * h + x.pitch(s, 0)) + x.pitch(s, 1);
            h = 31 * (31 * h + x.pitch(s, 2)) + x.pitch(s, 3);
            h = 31 * h + x.left(s);
        }
        h = 31 * (31 * h + x.dieFault()) + x.planFault();
        h = 31 * (31 * h + x.planned(NONE)) + x.fitsTwice();
        return 31 * (31 * h + x.scrap(false)) + x.scrap(true);
    }
}
