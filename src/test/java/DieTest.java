/** Promises 1 to 8: a new object, and what changes the die. */
public final class DieTest {
    private static final Class<IllegalArgumentException> ARGUMENT = IllegalArgumentException.class;
    private static final Class<IllegalStateException> STATE = IllegalStateException.class;
    private static final Class<IndexOutOfBoundsException> INDEX = IndexOutOfBoundsException.class;
    private static final int LOW = Integer.MIN_VALUE;
    private static final int HIGH = Integer.MAX_VALUE;

    private static final Check check = new Check("DieTest");

    public static void main(String[] args) {
        promise1();
        promise2();
        promise2WithPress();
        promise2WithGoodParts();
        promise3();
        promise3InTheCarrier();
        promise4();
        promise5();
        promise6();
        promise7();
        promise8();
        promise8WithBends();
        promise8InAllStations();
        check.end();
    }

    private static void promise1() {
        StripDie x = new StripDie();
        long[] whole = {6, 4, 0, 30, 0, 1, 5, 2, 0, 0, 0, 0, 0, 0, 0, 0, 0};
        for (int what = 0; what < whole.length; what++) {
            final int w = what;
            check.is("1: whole " + w, whole[w], () -> x.whole(w));
        }
        check.is("1: no part", 0, () -> x.cellSet(0));
        check.is("1: no link", 0, () -> x.cellSet(1));
        check.is("1: carrier", 0b111111, () -> x.cellSet(2));
        check.is("1: unpunched", 0xffffc0, () -> x.cellSet(4));
        check.fails("1: empty undo stack", STATE, () -> x.undo());
        for (int station = 0; station < 8; station++) {
            final int s = station;
            check.is("1: pilot " + s, 0, () -> x.station(s, 2));
            check.is("1: pitch " + s, StripDie.NONE, () -> x.pitch(s, 3));
        }
        StripDie y = new StripDie();
        x.mark(0, 1, 1, 1, 1);
        x.type(32);
        check.is("1: another object has no mark", 0, () -> y.cellSet(0));
        check.is("1: another object has no text", 0, () -> y.whole(16));
    }

    private static void promise2() {
        int[][] wrong = {{1, 4}, {11, 4}, {6, 1}, {6, 7}, {LOW, 4}, {HIGH, 4}, {6, LOW}, {6, HIGH}, {-6, -4}};
        StripDie x = new StripDie();
        for (int[] w : wrong) {
            check.fails("2: begin " + w[0] + " " + w[1], ARGUMENT, () -> x.begin(w[0], w[1]));
        }
        check.is("2: still the first columns", 6, () -> x.whole(0));
        check.fails("2: a call that throws saves nothing", STATE, () -> x.undo());
        check.is("2: smallest", 0, () -> x.begin(2, 2));
        check.is("2: its carrier", 0b11, () -> x.cellSet(2));
        check.is("2: greatest", 0, () -> x.begin(10, 6));
        check.is("2: its other cells", (1L << 60) - (1L << 10), () -> x.cellSet(4));
        x.setCarrier(2);
        x.set(0, 77);
        x.set(1, 3);
        x.set(2, 9);
        x.set(3, 50);
        x.set(4, 49);
        x.mark(0, 0, 10, 6, 1);
        x.mark(0, 1, 1, 1, 2);
        x.addPunch(0, 0, 1, 1);
        x.addBend(0, 0, 1);
        x.setPilot(7, true);
        x.type('p');
        check.is("2: operations that there were", 2, () -> x.begin(3, 5));
        long[] whole = {3, 5, 2, 77, 3, 9, 50, 49, 0, 0, 0, 0, 0, 0, 0, 0, 1};
        for (int what = 0; what < whole.length; what++) {
            final int w = what;
            check.is("2: whole " + w, whole[w], () -> x.whole(w));
        }
        check.is("2: nothing marked", 0, () -> x.cellSet(0) | x.cellSet(1));
        x.setCarrier(0);
        check.is("2: nothing marked where the carrier was", 0, () -> x.cellSet(0) | x.cellSet(1));
        x.undo();
        check.is("2: undoable", 2, () -> x.undo());
        check.is("2: its undo brings the operations back", 2, () -> x.whole(8));
        check.is("2: and the pilot", 1, () -> x.station(7, 2));
        check.is("2: and the marks", 10 * 3 + 9, () -> Long.bitCount(x.cellSet(0)));
    }

    private static void promise2WithPress() {
        StripDie x = new StripDie();
        x.addPunch(0, 1, 2, 1);
        x.setStation(0, 2);
        x.stroke();
        x.stroke();
        x.stroke();
        x.stroke();
        check.is("2: slugs before", 4, () -> x.whole(14));
        check.is("2: bad parts before", 1, () -> x.whole(13));
        check.is("2: pitches before", 3, () -> x.whole(10));
        check.is("2: begin with a press", 1, () -> x.begin(6, 4));
        for (int what = 8; what <= 15; what++) {
            final int w = what;
            check.is("2: whole as at first " + w, 0, () -> x.whole(w));
        }
        check.is("2: no pitch", 0, () -> x.station(0, 3));
        x.undo();
        check.is("2: strokes are back", 4, () -> x.whole(11));
        check.is("2: pitches are back", 3, () -> x.whole(10));
        check.is("2: slugs are back", 4, () -> x.whole(14));
    }

    private static void promise2WithGoodParts() {
        StripDie x = new StripDie();
        x.mark(0, 0, 6, 4, 1);
        x.stroke();
        x.stroke();
        check.is("2: good parts before", 2, () -> x.whole(12));
        x.begin(6, 4);
        check.is("2: no good parts then", 0, () -> x.whole(12));
        check.is("2: no strokes then", 0, () -> x.whole(11));
        check.is("2: the new die's pitch is bad", 2, () -> x.stroke());
        check.is("2: one bad part", 1, () -> x.whole(13));
        x.undo();
        x.undo();
        check.is("2: good parts are back", 2, () -> x.whole(12));
    }

    private static void promise3() {
        int[][] wrong = {
            {-1, 0, 1, 1, 1}, {0, -1, 1, 1, 1}, {6, 0, 1, 1, 1}, {0, 4, 1, 1, 1}, {0, 0, 0, 1, 1},
            {0, 0, 1, 0, 1}, {0, 0, -1, 1, 1}, {0, 0, 1, -1, 1}, {0, 0, 7, 1, 1}, {0, 0, 1, 5, 1},
            {1, 0, 6, 1, 1}, {0, 1, 1, 4, 1}, {0, 0, 1, 1, -1}, {0, 0, 1, 1, 3}, {HIGH, 0, 1, 1, 1},
            {HIGH, 0, HIGH, 1, 1}, {1, 0, HIGH, 1, 1}, {0, 1, 1, HIGH, 1}, {LOW, 0, 1, 1, 1},
            {LOW, 0, LOW, 1, 1}, {0, LOW, 1, HIGH, 1}, {0, 0, 1, 1, LOW}, {0, 0, 1, 1, HIGH},
        };
        StripDie x = new StripDie();
        for (int[] w : wrong) {
            check.fails("3: mark " + w[0] + " " + w[1] + " " + w[2] + " " + w[3] + " " + w[4], ARGUMENT,
                    () -> x.mark(w[0], w[1], w[2], w[3], w[4]));
        }
        check.is("3: nothing marked", 0, () -> x.cellSet(0) | x.cellSet(1));
        check.is("3: neither is neither", 0, () -> x.mark(0, 0, 6, 4, 0));
        check.is("3: part", 6, () -> x.mark(1, 1, 3, 2, 1));
        check.is("3: its cells", 0b001110_001110_000000, () -> x.cellSet(0));
        check.is("3: again", 0, () -> x.mark(1, 1, 3, 2, 1));
        check.is("3: links over it", 4, () -> x.mark(3, 2, 2, 2, 2));
        check.is("3: part is less", 0b000110_001110_000000, () -> x.cellSet(0));
        check.is("3: links", 0b011000_011000_000000_000000, () -> x.cellSet(1));
        check.is("3: part over links", 2, () -> x.mark(3, 3, 2, 1, 1));
        check.is("3: links are less", 0b011000_000000_000000, () -> x.cellSet(1));
        check.is("3: neither again", 9, () -> x.mark(0, 0, 6, 4, 0));
        check.is("3: nothing is left", 0, () -> x.cellSet(0) | x.cellSet(1));
        check.is("3: last cell", 1, () -> x.mark(5, 3, 1, 1, 2));
        check.is("3: is bit 23", 1L << 23, () -> x.cellSet(1));
        check.is("3: undoable", 3, () -> x.undo());
        check.is("3: undone", 0, () -> x.cellSet(1));
        x.begin(10, 6);
        check.is("3: all of the greatest pitch", 60, () -> x.mark(0, 0, 10, 6, 1));
        check.is("3: all but the carrier", (1L << 60) - (1L << 10), () -> x.cellSet(0));
    }

    private static void promise3InTheCarrier() {
        StripDie x = new StripDie();
        check.is("3: in the carrier", 12, () -> x.mark(0, 0, 6, 2, 1));
        check.is("3: not of the part there", 0b111111_000000, () -> x.cellSet(0));
        check.is("3: kept there", 6, () -> x.mark(0, 0, 6, 1, 2));
        check.is("3: no links there", 0, () -> x.cellSet(1));
        x.setCarrier(1);
        check.is("3: links when it is not in the carrier", 0b111111, () -> x.cellSet(1));
        x.mark(0, 3, 2, 1, 1);
        check.is("3: not in the last row", 0b111111_000000, () -> x.cellSet(0));
        x.setCarrier(0);
        check.is("3: in the last row", 0b11L << 18 | 0b111111_000000, () -> x.cellSet(0));
    }

    private static void promise4() {
        StripDie x = new StripDie();
        int[] wrong = {-1, 3, LOW, HIGH};
        for (int w : wrong) {
            check.fails("4: carrier " + w, ARGUMENT, () -> x.setCarrier(w));
        }
        check.is("4: first row before", 0, () -> x.setCarrier(1));
        check.is("4: last row", 0b111111L << 18, () -> x.cellSet(2));
        check.is("4: last row before", 1, () -> x.setCarrier(2));
        check.is("4: both rows", 0b111111L << 18 | 0b111111L, () -> x.cellSet(2));
        check.is("4: both before", 2, () -> x.setCarrier(2));
        check.is("4: whole", 2, () -> x.whole(2));
        check.is("4: undoable, also without a change", 2, () -> x.undo());
        check.is("4: still both", 2, () -> x.whole(2));
        x.undo();
        check.is("4: undone", 1, () -> x.whole(2));
        x.begin(2, 2);
        x.setCarrier(2);
        check.is("4: all cells may be carrier", 0b1111, () -> x.cellSet(2));
    }

    private static void promise5() {
        int[] least = {1, 0, 0, 0, 0};
        int[] most = {999, 3, 9, 50, 50};
        int[] first = {30, 0, 1, 5, 2};
        StripDie x = new StripDie();
        for (int what = 0; what < 5; what++) {
            final int w = what;
            check.fails("5: below " + w, ARGUMENT, () -> x.set(w, least[w] - 1));
            check.fails("5: above " + w, ARGUMENT, () -> x.set(w, most[w] + 1));
            check.fails("5: lowest " + w, ARGUMENT, () -> x.set(w, LOW));
            check.fails("5: highest " + w, ARGUMENT, () -> x.set(w, HIGH));
            check.is("5: kept " + w, first[w], () -> x.whole(3 + w));
            check.is("5: least " + w, first[w], () -> x.set(w, least[w]));
            check.is("5: is least " + w, least[w], () -> x.whole(3 + w));
            check.is("5: most " + w, least[w], () -> x.set(w, most[w]));
            check.is("5: is most " + w, most[w], () -> x.whole(3 + w));
            x.undo();
            check.is("5: undone " + w, least[w], () -> x.whole(3 + w));
            x.undo();
        }
        int[] wrong = {-1, 5, LOW, HIGH};
        for (int w : wrong) {
            check.fails("5: setting " + w, ARGUMENT, () -> x.set(w, 1));
        }
    }

    private static void promise6() {
        int[][] wrong = {
            {-1, 0, 1, 1}, {0, -1, 1, 1}, {6, 0, 1, 1}, {0, 4, 1, 1}, {0, 0, 0, 1}, {0, 0, 1, 0},
            {0, 0, 7, 1}, {0, 0, 1, 5}, {5, 3, 2, 1}, {5, 3, 1, 2}, {HIGH, 0, HIGH, 1}, {0, HIGH, 1, HIGH},
            {LOW, 0, 1, 1}, {1, 1, LOW, 1}, {1, 1, 1, LOW},
        };
        StripDie x = new StripDie();
        for (int[] w : wrong) {
            check.fails("6: punch " + w[0] + " " + w[1] + " " + w[2] + " " + w[3], ARGUMENT,
                    () -> x.addPunch(w[0], w[1], w[2], w[3]));
        }
        check.is("6: none was added", 0, () -> x.whole(8));
        check.is("6: first", 0, () -> x.addPunch(4, 1, 2, 3));
        int[] values = {0, 4, 1, 2, 3, 10, StripDie.NONE, 0};
        for (int what = 0; what < values.length; what++) {
            final int w = what;
            check.is("6: value " + w, values[w], () -> x.operation(0, w));
        }
        check.is("6: all cells", 1, () -> x.addPunch(0, 0, 6, 4));
        check.is("6: its force", 20, () -> x.operation(1, 5));
        for (int o = 2; o < 6; o++) {
            final int next = o;
            check.is("6: the same again " + o, next, () -> x.addPunch(0, 0, 1, 1));
        }
        check.fails("6: a seventh", STATE, () -> x.addPunch(0, 0, 1, 1));
        check.fails("6: a seventh outside the pitch", ARGUMENT, () -> x.addPunch(6, 0, 1, 1));
        check.is("6: six", 6, () -> x.whole(8));
        check.is("6: undoable", 3, () -> x.undo());
        check.is("6: undone", 5, () -> x.whole(8));
        check.is("6: there is room again", 5, () -> x.addPunch(0, 0, 1, 1));
    }

    private static void promise7() {
        int[][] wrong = {
            {-1, 0, 1}, {0, -1, 1}, {6, 0, 1}, {0, 4, 1}, {0, 0, 0}, {0, 0, -1}, {0, 0, 7}, {3, 3, 4},
            {HIGH, 0, HIGH}, {1, 0, HIGH}, {LOW, 0, LOW}, {0, LOW, 1}, {0, HIGH, 1},
        };
        StripDie x = new StripDie();
        for (int[] w : wrong) {
            check.fails("7: bend " + w[0] + " " + w[1] + " " + w[2], ARGUMENT,
                    () -> x.addBend(w[0], w[1], w[2]));
        }
        check.is("7: none was added", 0, () -> x.whole(8));
        check.is("7: first", 0, () -> x.addBend(2, 3, 4));
        int[] values = {1, 2, 3, 4, 1, 4, StripDie.NONE, 0};
        for (int what = 0; what < values.length; what++) {
            final int w = what;
            check.is("7: value " + w, values[w], () -> x.operation(0, w));
        }
        check.is("7: no cell is taken", 0, () -> x.cellSet(3));
        for (int o = 1; o < 6; o++) {
            final int next = o;
            check.is("7: the same again " + o, next, () -> x.addBend(0, 0, 1));
        }
        check.fails("7: a seventh", STATE, () -> x.addBend(0, 0, 1));
        check.fails("7: a seventh outside the pitch", ARGUMENT, () -> x.addBend(0, 0, 7));
        check.is("7: undoable", 3, () -> x.undo());
        check.is("7: undone", 5, () -> x.whole(8));
    }

    private static void promise8() {
        StripDie x = new StripDie();
        check.fails("8: none there", INDEX, () -> x.dropOperation(0));
        x.addPunch(0, 1, 1, 1);
        x.addPunch(1, 2, 2, 2);
        x.addBend(3, 1, 3);
        x.setStation(0, 5);
        x.setStation(1, 6);
        x.setStation(2, 7);
        int[] wrong = {-1, 3, LOW, HIGH};
        for (int w : wrong) {
            check.fails("8: drop " + w, INDEX, () -> x.dropOperation(w));
        }
        check.is("8: drop the middle one", 2, () -> x.dropOperation(1));
        int[] first = {0, 0, 1, 1, 1, 4, 5};
        int[] second = {1, 3, 1, 3, 1, 3, 7};
        for (int what = 0; what < 7; what++) {
            final int w = what;
            check.is("8: the one before " + w, first[w], () -> x.operation(0, w));
            check.is("8: the one behind " + w, second[w], () -> x.operation(1, w));
        }
        check.is("8: cells that are taken", 1L << 6, () -> x.cellSet(3));
        check.fails("8: no third one", INDEX, () -> x.operation(2, 0));
        check.is("8: drop the last one", 1, () -> x.dropOperation(1));
        check.is("8: stations of the plan", 6, () -> x.whole(9));
        check.is("8: drop the only one", 0, () -> x.dropOperation(0));
        check.is("8: undoable", 3, () -> x.undo());
        check.is("8: undone", 5, () -> x.operation(0, 6));
        x.addPunch(5, 3, 1, 1);
        check.is("8: a new one has no station", StripDie.NONE, () -> x.operation(1, 6));
    }

    private static void promise8WithBends() {
        StripDie x = new StripDie();
        x.addBend(0, 1, 1);
        x.addPunch(1, 1, 1, 1);
        x.addBend(2, 1, 1);
        x.addBend(3, 1, 1);
        for (int o = 0; o < 4; o++) {
            x.setStation(o, 1);
        }
        x.stroke();
        x.stroke();
        check.is("8: bends done", 0b1101, () -> x.pitch(1, 0));
        x.dropOperation(2);
        check.is("8: without the middle bend", 0b101, () -> x.pitch(1, 0));
        x.dropOperation(1);
        check.is("8: without the punch", 0b11, () -> x.pitch(1, 0));
        x.dropOperation(0);
        check.is("8: without the first bend", 0b1, () -> x.pitch(1, 0));
        x.addBend(5, 1, 1);
        check.is("8: a new bend is not done", 0b1, () -> x.pitch(1, 0));
        x.undo();
        x.undo();
        check.is("8: bends are back", 0b11, () -> x.pitch(1, 0));
        check.is("8: no bends at the station before", 0, () -> x.pitch(0, 0));
    }

    /** Six bends at station 0, and a pitch at each station: all of them forget the one that is dropped. */
    private static void promise8InAllStations() {
        for (int dropped = 0; dropped < 6; dropped++) {
            StripDie x = new StripDie();
            x.addPunch(0, 1, 1, 1);
            for (int o = 1; o < 6; o++) {
                x.addBend(o, 1, 1);
                x.setStation(o, 0);
            }
            x.setStation(0, 7);
            for (int i = 0; i < 8; i++) {
                x.stroke();
            }
            check.is("8: five are left", 5, x.dropOperation(dropped));
            int due = dropped == 0 ? 0b11111 : 0b11110;
            int stations = dropped == 0 ? 1 : 8;
            check.is("8: stations without " + dropped, stations, () -> x.whole(9));
            for (int s = 0; s <= 7; s++) {
                final int station = s;
                check.is("8: without " + dropped + " at " + s, due, () -> x.pitch(station, 0));
            }
            check.is("8: all pitches stay", 8, () -> x.whole(10));
            x.undo();
            for (int s = 0; s <= 7; s++) {
                final int station = s;
                check.is("8: again with " + dropped + " at " + s, 0b111110, () -> x.pitch(station, 0));
            }
        }
    }
}
