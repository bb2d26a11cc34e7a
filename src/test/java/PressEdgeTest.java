/** Promises 11 to 13, 16 to 18 and 26 at their edges: the press empty and full, offsets at their bounds, the steps' order. */
public final class PressEdgeTest {
    private static final int NONE = StripDie.NONE;

    private static final Check check = new Check("PressEdgeTest");

    public static void main(String[] args) {
        emptyPress();
        for (int stations = 1; stations <= 8; stations++) {
            fullPress(stations);
        }
        allLeaveAtOnce();
        for (int drift = 0; drift <= 9; drift++) {
            offsets(drift);
        }
        driftBetweenStrokes();
        for (int bound = 0; bound <= 50; bound++) {
            catchBound(bound);
            toleranceBound(bound);
        }
        pilotAtStation0();
        pilotBehindThePlan();
        pilotBeforeOperations();
        noOperationNoHarm();
        newPitchHasNoOperations();
        everyCellCounts();
        everyBendCounts();
        goodPartOfNothing();
        sixOperationsInAStation();
        slugsOfOverlaps();
        bendsStayDone();
        pilotsOfAllStations();
        manyStrokes();
        check.end();
    }

    private static StripDie placed(int first, int second, int third) {
        StripDie x = Scenes.plain();
        x.setStation(0, first);
        x.setStation(1, second);
        x.setStation(2, third);
        return x;
    }

    private static void strokes(StripDie x, int count) {
        for (int i = 0; i < count; i++) {
            x.stroke();
        }
    }

    private static void emptyPress() {
        StripDie x = placed(0, 1, 2);
        check.is("13: of an empty press", 0, () -> x.emptyPress());
        check.is("13: no bad parts", 0, () -> x.whole(13));
        for (int s = 0; s <= 7; s++) {
            final int station = s;
            check.is("16: no pitch " + s, 0, () -> x.station(station, 3));
            check.is("18: no cells " + s, 0, () -> x.left(station));
            for (int w = 0; w <= 3; w++) {
                final int what = w;
                check.is("17: no value " + s + " " + w, NONE, () -> x.pitch(station, what));
            }
        }
        x.stroke();
        check.is("13: one pitch", 1, () -> x.emptyPress());
        check.is("13: is a bad part", 1, () -> x.whole(13));
        check.is("13: again", 0, () -> x.emptyPress());
        check.is("13: no bad part more", 1, () -> x.whole(13));
        check.is("12: the next stroke starts again", 0, () -> x.stroke());
        check.is("19: one pitch then", 1, () -> x.whole(10));
    }

    /** The first pitch is cut off by the stroke behind the one that fills the last station. */
    private static void fullPress(int stations) {
        StripDie x = placed(0, 0, stations - 1);
        String at = stations + " stations: ";
        x.set(4, 50);
        check.is("19: " + at, stations, () -> x.whole(9));
        check.is("26: " + at, stations + 1, () -> x.strokesToGood());
        for (int i = 1; i <= stations; i++) {
            final int strokes = i;
            check.is("12: " + at + "none leaves " + i, 0, () -> x.stroke());
            check.is("19: " + at + "pitches " + i, strokes, () -> x.whole(10));
            check.is("26: " + at + "still needed " + i, stations + 1 - strokes, () -> x.strokesToGood());
        }
        for (int s = 0; s <= 7; s++) {
            final int station = s;
            check.is("16: " + at + "pitch at " + s, s < stations ? 1 : 0, () -> x.station(station, 3));
            check.is("17: " + at + "offset at " + s, s < stations ? s : NONE, () -> x.pitch(station, 1));
        }
        check.is("12: " + at + "the first one leaves", 1, () -> x.stroke());
        check.is("19: " + at + "pitches stay as many", stations, () -> x.whole(10));
        check.is("26: " + at + "one at each stroke", 1, () -> x.strokesToGood());
        check.is("13: " + at + "all are lost", stations, () -> x.emptyPress());
        check.is("19: " + at + "bad parts", stations, () -> x.whole(13));
        check.is("19: " + at + "good parts", 1, () -> x.whole(12));
    }

    /** Eight pitches that are done already, and a plan that is shorter all at once. */
    private static void allLeaveAtOnce() {
        StripDie x = new StripDie();
        x.begin(4, 3);
        x.mark(1, 1, 2, 2, 1);
        x.addPunch(0, 1, 1, 2);
        x.addPunch(3, 1, 1, 2);
        x.addPunch(0, 1, 1, 1);
        x.setStation(0, 0);
        x.setStation(1, 0);
        x.setStation(2, 7);
        x.set(4, 50);
        strokes(x, 8);
        x.setStation(2, 0);
        check.is("26: one stroke is enough", 1, () -> x.strokesToGood());
        check.is("12: all eight are good", 1, () -> x.stroke());
        check.is("19: good parts", 8, () -> x.whole(12));
        check.is("19: bad parts", 0, () -> x.whole(13));
        check.is("19: the new one stays", 1, () -> x.whole(10));
        x.undo();
        x.setStation(1, NONE);
        x.setStation(0, NONE);
        x.setStation(2, NONE);
        check.is("12: eight good ones and the new one", 2, () -> x.stroke());
        check.is("19: eight are good", 8, () -> x.whole(12));
        check.is("19: one is bad", 1, () -> x.whole(13));
        check.is("19: the press is empty", 0, () -> x.whole(10));
    }

    private static void offsets(int drift) {
        StripDie x = new StripDie();
        x.addBend(0, 1, 1);
        x.setStation(0, 7);
        x.set(2, drift);
        x.set(4, 50);
        strokes(x, 8);
        for (int s = 0; s <= 7; s++) {
            final int station = s;
            check.is("17: drift " + drift + " station " + s, drift * s, () -> x.pitch(station, 1));
        }
        check.is("17: spoiled above 50, drift " + drift, 7 * drift > 50 ? 1 : 0, () -> x.pitch(7, 2));
        check.is("17: not without an operation, drift " + drift, 0, () -> x.pitch(6, 2));
    }

    private static void driftBetweenStrokes() {
        StripDie x = placed(0, 0, 7);
        x.set(2, 9);
        x.stroke();
        check.is("12: a new pitch has offset 0", 0, () -> x.pitch(0, 1));
        x.stroke();
        x.set(2, 0);
        x.stroke();
        check.is("12: no drift, the first one", 9, () -> x.pitch(2, 1));
        check.is("12: no drift, the second one", 0, () -> x.pitch(1, 1));
        x.set(2, 4);
        x.stroke();
        check.is("12: the drift as it is now", 13, () -> x.pitch(3, 1));
        check.is("12: the second one, too", 4, () -> x.pitch(2, 1));
        check.is("12: and the third one", 4, () -> x.pitch(1, 1));
        check.is("12: the new one has none", 0, () -> x.pitch(0, 1));
    }

    /** Makes a pitch of that offset at station 7, in seven moves. */
    private static void moveWith(StripDie x, int offset) {
        x.stroke();
        int rest = offset;
        for (int i = 0; i < 7; i++) {
            int drift = Math.min(rest, 9);
            x.set(2, drift);
            rest -= drift;
            if (i < 6) {
                x.stroke();
            }
        }
    }

    private static void catchBound(int bound) {
        for (int more = 0; more <= 1; more++) {
            StripDie x = new StripDie();
            x.addBend(0, 1, 1);
            x.setStation(0, 7);
            x.set(3, bound);
            x.set(4, 50);
            x.setPilot(7, true);
            moveWith(x, bound + more);
            x.stroke();
            String at = "12: catch " + bound + " offset " + (bound + more);
            int offset = bound + more;
            int spoiled = more;
            check.is(at, spoiled, () -> x.pitch(7, 2));
            check.is(at + " then", spoiled == 0 ? 0 : offset, () -> x.pitch(7, 1));
        }
    }

    private static void toleranceBound(int bound) {
        for (int more = 0; more <= 1; more++) {
            StripDie x = new StripDie();
            x.addBend(0, 1, 1);
            x.setStation(0, 7);
            x.set(4, bound);
            moveWith(x, bound + more);
            x.stroke();
            String at = "12: tolerance " + bound + " offset " + (bound + more);
            int offset = bound + more;
            int spoiled = more;
            check.is(at, spoiled, () -> x.pitch(7, 2));
            check.is(at + " stays", offset, () -> x.pitch(7, 1));
            check.is(at + " is bent", 1, () -> x.pitch(7, 0));
        }
    }

    private static void pilotAtStation0() {
        StripDie x = placed(0, 0, 0);
        x.setPilot(0, true);
        x.set(3, 0);
        x.set(4, 0);
        x.set(2, 9);
        check.is("12: none leaves", 0, () -> x.stroke());
        check.is("12: the offset 0 is at most the catch 0, and no more than the tolerance 0", 0, () -> x.pitch(0, 2));
        check.is("12: cut off before any harm", 1, () -> x.stroke());
    }

    /** A pitch leaves before the pilots come and before the operations are done. */
    private static void pilotBehindThePlan() {
        StripDie x = placed(0, 0, 1);
        x.set(2, 3);
        x.set(4, 3);
        x.set(3, 2);
        x.setPilot(2, true);
        strokes(x, 2);
        check.is("12: a pilot where it is cut off does nothing", 1, () -> x.stroke());
        x.setStation(2, 0);
        check.is("12: the plan is shorter now", 1, () -> x.whole(9));
        check.is("12: it leaves without the bend at station 1", 2, () -> x.stroke());
        check.is("12: which was done for one of the two", 2, () -> x.whole(12));
        check.is("12: and not for the other", 1, () -> x.whole(13));
    }

    private static void pilotBeforeOperations() {
        StripDie x = placed(0, 0, 1);
        x.set(2, 9);
        x.set(3, 9);
        x.set(4, 0);
        x.setPilot(1, true);
        strokes(x, 2);
        check.is("12: caught, so within the tolerance", 0, () -> x.pitch(1, 2));
        x.setPilot(1, false);
        x.stroke();
        check.is("12: not caught", 1, () -> x.pitch(1, 2));
        x.setPilot(1, true);
        x.set(3, 8);
        x.set(4, 9);
        x.stroke();
        check.is("12: spoiled by the pilot, though within the tolerance", 1, () -> x.pitch(1, 2));
        check.is("12: and bent all the same", 0b100, () -> x.pitch(1, 0));
        x.setPilot(1, false);
        x.stroke();
        check.is("12: without the pilot", 0, () -> x.pitch(1, 2));
    }

    private static void noOperationNoHarm() {
        StripDie x = placed(0, 0, 7);
        x.set(2, 9);
        x.set(4, 0);
        strokes(x, 8);
        for (int s = 0; s <= 6; s++) {
            final int station = s;
            check.is("12: no operation at station " + s, 0, () -> x.pitch(station, 2));
        }
        check.is("12: at the last one there is", 1, () -> x.pitch(7, 2));
        check.is("26: so none will be good", NONE, () -> x.strokesToGood());
        x.setStation(2, 0);
        check.is("26: with the bend at once", 2, () -> x.strokesToGood());
    }

    /** What is done goes by the plan at each stroke, and by no stroke before. */
    private static void newPitchHasNoOperations() {
        StripDie x = placed(NONE, NONE, 3);
        strokes(x, 4);
        check.is("17: all its cells", 12, () -> x.pitch(0, 3));
        check.is("17: no bends", 0, () -> x.pitch(2, 0));
        x.setStation(0, 2);
        check.is("17: nothing is done before the stroke", 12, () -> x.pitch(2, 3));
        x.stroke();
        check.is("17: then it is", 10, () -> x.pitch(2, 3));
        check.is("17: not behind it", 12, () -> x.pitch(3, 3));
    }

    /** A part that lacks one cell, and a hole that has one cell left, whichever it is. */
    private static void everyCellCounts() {
        for (int cell = 4; cell < 12; cell++) {
            int cx = cell % 4;
            int cy = cell / 4;
            StripDie x = Scenes.plain();
            x.dropOperation(2);
            x.setStation(0, 0);
            x.setStation(1, 0);
            strokes(x, 2);
            check.is("12: good before", 1, () -> x.whole(12));
            boolean part = cx == 1 || cx == 2;
            x.mark(cx, cy, 1, 1, part ? 0 : 1);
            check.is("12: bad with the cell " + cell, 2, () -> x.stroke());
            x.mark(cx, cy, 1, 1, 2);
            check.is("12: a link may be there or not " + cell, 1, () -> x.stroke());
        }
        for (int cell = 0; cell < 4; cell++) {
            final int cx = cell;
            StripDie x = placed(0, 0, 0);
            x.addPunch(cx, 0, 1, 1);
            x.setStation(3, 0);
            strokes(x, 1);
            check.is("12: a cell of the carrier may be gone " + cell, 1, () -> x.stroke());
            x.mark(cx, 0, 1, 1, 1);
            check.is("12: also when it is marked " + cell, 1, () -> x.stroke());
        }
    }

    private static void everyBendCounts() {
        for (int missing = 0; missing < 6; missing++) {
            StripDie x = new StripDie();
            x.begin(2, 2);
            x.mark(0, 0, 2, 2, 1);
            for (int o = 0; o < 6; o++) {
                x.addBend(o % 2, 1, 1);
                x.setStation(o, o == missing ? NONE : 0);
            }
            x.stroke();
            final int bends = 0b111111 & ~(1 << missing);
            check.is("17: bends without " + missing, bends, () -> x.pitch(0, 0));
            check.is("26: never without " + missing, NONE, () -> x.strokesToGood());
            check.is("12: bad without " + missing, 2, () -> x.stroke());
            x.setStation(missing, 0);
            check.is("26: with all six", 2, () -> x.strokesToGood());
            x.stroke();
            check.is("17: all six " + missing, 0b111111, () -> x.pitch(0, 0));
            check.is("12: good with all six " + missing, 1, () -> x.stroke());
        }
    }

    private static void goodPartOfNothing() {
        StripDie x = new StripDie();
        x.begin(2, 2);
        check.is("26: two cells are neither", NONE, () -> x.strokesToGood());
        x.addPunch(0, 1, 2, 1);
        x.setStation(0, 0);
        check.is("26: the cells of no part are all left", 2, () -> x.strokesToGood());
        x.stroke();
        check.is("12: a good part of no cells", 1, () -> x.stroke());
        x.setCarrier(2);
        x.setStation(0, NONE);
        check.is("26: all cells are carrier, no stations", 1, () -> x.strokesToGood());
    }

    private static void sixOperationsInAStation() {
        StripDie x = new StripDie();
        for (int o = 0; o < 6; o++) {
            if (o % 2 == 0) {
                x.addPunch(o, 1, 1, 1);
            } else {
                x.addBend(o, 1, 1);
            }
            x.setStation(o, 7);
        }
        check.is("16: all six", 0b111111, () -> x.station(7, 0));
        check.is("16: their force", 15, () -> x.station(7, 1));
        strokes(x, 8);
        check.is("17: all bends", 0b101010, () -> x.pitch(7, 0));
        check.is("17: all punches", 21, () -> x.pitch(7, 3));
        check.is("19: slugs", 3, () -> x.whole(14));
    }

    private static void slugsOfOverlaps() {
        StripDie x = new StripDie();
        x.begin(3, 2);
        for (int o = 0; o < 3; o++) {
            x.addPunch(0, 0, 2, 2);
            x.setStation(o, o);
        }
        x.stroke();
        check.is("19: slugs of the first", 4, () -> x.whole(14));
        x.stroke();
        x.stroke();
        check.is("19: none of the second and third", 12, () -> x.whole(14));
        x.addPunch(1, 0, 2, 2);
        x.setStation(3, 2);
        x.stroke();
        check.is("19: only those that are there", 12 + 4 + 2, () -> x.whole(14));
        check.is("18: nothing is left", 0, () -> x.left(2));
        check.is("16: but a pitch is there", 1, () -> x.station(2, 3));
        check.is("17: with no cells", 0, () -> x.pitch(2, 3));
    }

    private static void bendsStayDone() {
        StripDie x = placed(1, 1, 0);
        strokes(x, 1);
        x.setStation(2, 1);
        x.stroke();
        check.is("17: done twice is done", 0b100, () -> x.pitch(1, 0));
        check.is("17: not done at station 0 any more", 0, () -> x.pitch(0, 0));
        x.setStation(2, NONE);
        check.is("17: stays done without a station", 0b100, () -> x.pitch(1, 0));
        check.is("12: and is so at the end", 1, () -> x.stroke());
        x.dropOperation(2);
        check.is("12: a die without bends needs none", 1, () -> x.stroke());
    }

    private static void pilotsOfAllStations() {
        StripDie x = new StripDie();
        for (int s = 0; s <= 7; s++) {
            final int station = s;
            check.is("11: pilots up to " + s, s + 1, () -> x.setPilot(station, true));
            check.is("19: pilots up to " + s, station + 1, () -> x.whole(15));
        }
        for (int s = 0; s <= 7; s++) {
            final int station = s;
            check.is("11: without those up to " + s, 7 - s, () -> x.setPilot(station, false));
            check.is("16: none at " + s, 0, () -> x.station(station, 2));
            check.is("16: but at the last one", s < 7 ? 1 : 0, () -> x.station(7, 2));
        }
    }

    /** Long counts: 350 runs of a text with 14 times 50 strokes. */
    private static void manyStrokes() {
        StripDie x = new StripDie();
        Scenes.type(x, "stroke 50;".repeat(14));
        for (int i = 1; i <= 350; i++) {
            x.runCommands();
        }
        check.is("19: strokes", 350 * 700, () -> x.whole(11));
        check.is("19: bad parts", 350 * 700, () -> x.whole(13));
        check.is("30: undo", 3, () -> x.undo());
        check.is("19: strokes, one run less", 349 * 700, () -> x.whole(11));
    }
}
