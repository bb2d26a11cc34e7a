/** Promises 11 to 13, 17, 18 and 26: the press. */
public final class PressTest {
    private static final Class<IllegalArgumentException> ARGUMENT = IllegalArgumentException.class;
    private static final int NONE = StripDie.NONE;
    private static final int[] FAR = {Integer.MIN_VALUE, -1, Integer.MAX_VALUE};

    private static final Check check = new Check("PressTest");

    public static void main(String[] args) {
        promise11();
        promise12();
        promise12WithoutPlan();
        promise12ShorterPlan();
        promise12Tolerance();
        promise12Pilots();
        promise12GoodOrBad();
        promise12Slugs();
        promise13();
        promise17And18();
        promise26();
        promise26Together();
        check.end();
    }

    /** A die without fault: a part of two rows, a punch left of it and one right of it, a bend below. */
    private static StripDie die() {
        StripDie x = new StripDie();
        x.begin(4, 3);
        x.mark(1, 1, 2, 2, 1);
        x.addPunch(0, 1, 1, 2);
        x.addPunch(3, 1, 1, 2);
        x.addBend(1, 2, 2);
        return x;
    }

    private static void place(StripDie x, int first, int second, int third) {
        x.setStation(0, first);
        x.setStation(1, second);
        x.setStation(2, third);
    }

    private static void promise11() {
        StripDie x = new StripDie();
        for (int w : FAR) {
            check.fails("11: station " + w, ARGUMENT, () -> x.setPilot(w, true));
        }
        check.fails("11: station 8", ARGUMENT, () -> x.setPilot(8, false));
        check.is("11: first", 1, () -> x.setPilot(0, true));
        check.is("11: last", 2, () -> x.setPilot(7, true));
        check.is("11: again", 2, () -> x.setPilot(7, true));
        check.is("11: none to take away", 2, () -> x.setPilot(3, false));
        check.is("11: is there", 1, () -> x.station(0, 2));
        check.is("11: away", 1, () -> x.setPilot(0, false));
        check.is("11: is away", 0, () -> x.station(0, 2));
        check.is("11: the other one stays", 1, () -> x.station(7, 2));
        check.is("11: undoable", 3, () -> x.undo());
        check.is("11: undone", 2, () -> x.whole(15));
    }

    private static void promise12() {
        StripDie x = die();
        place(x, 0, 1, 2);
        check.is("12: no fault", 0, () -> x.dieFault() + x.planFault());
        for (int i = 0; i < 3; i++) {
            check.is("12: none is cut off", 0, () -> x.stroke());
        }
        check.is("12: at station 0", 0b1110_1110_1111, () -> x.left(0));
        check.is("12: at station 1", 0b0110_0110_1111, () -> x.left(1));
        check.is("12: at station 2", 0b0110_0110_1111, () -> x.left(2));
        check.is("12: bends at station 1", 0, () -> x.pitch(1, 0));
        check.is("12: bends at station 2", 0b100, () -> x.pitch(2, 0));
        check.is("12: offset at station 2", 2, () -> x.pitch(2, 1));
        check.is("12: not spoiled", 0, () -> x.pitch(2, 2));
        check.is("12: a good part", 1, () -> x.stroke());
        check.is("12: good parts", 1, () -> x.whole(12));
        check.is("12: bad parts", 0, () -> x.whole(13));
        check.is("12: strokes", 4, () -> x.whole(11));
        check.is("12: pitches", 3, () -> x.whole(10));
        check.is("12: undoable", 3, () -> x.undo());
        check.is("12: strokes undone", 3, () -> x.whole(11));
        check.is("12: good parts undone", 0, () -> x.whole(12));
        check.is("12: again", 1, () -> x.stroke());
    }

    private static void promise12WithoutPlan() {
        StripDie x = new StripDie();
        check.is("12: the new pitch leaves, with cells that are neither", 2, () -> x.stroke());
        check.is("12: is bad", 1, () -> x.whole(13));
        check.is("12: the press is empty", 0, () -> x.whole(10));
        x.mark(0, 1, 6, 3, 1);
        check.is("12: the new pitch leaves, all of it is part or carrier", 1, () -> x.stroke());
        x.mark(0, 1, 6, 3, 2);
        check.is("12: no cell of the part is needed", 1, () -> x.stroke());
        x.addBend(0, 1, 1);
        check.is("12: a bend that was not done", 2, () -> x.stroke());
        x.dropOperation(0);
        x.addPunch(0, 1, 1, 1);
        check.is("12: a punch that was not done is no matter", 1, () -> x.stroke());
        check.is("12: good", 3, () -> x.whole(12));
        check.is("12: bad", 2, () -> x.whole(13));
    }

    private static void promise12ShorterPlan() {
        StripDie x = die();
        x.set(2, 0);
        place(x, 0, 0, 7);
        for (int i = 0; i < 8; i++) {
            check.is("12: eight stations", 0, () -> x.stroke());
        }
        check.is("12: pitches in all stations", 8, () -> x.whole(10));
        check.is("12: the last one leaves", 1, () -> x.stroke());
        x.setStation(2, 1);
        check.is("12: the pitches stay until the next stroke", 8, () -> x.whole(10));
        check.is("12: seven leave, one of them is bent", 2, () -> x.stroke());
        check.is("12: good", 2, () -> x.whole(12));
        check.is("12: bad", 6, () -> x.whole(13));
        check.is("12: two stay", 2, () -> x.whole(10));
        check.is("12: the one at station 1 is bent", 0b100, () -> x.pitch(1, 0));
        place(x, 0, 0, 0);
        check.is("12: two leave, and one was bent", 2, () -> x.stroke());
        check.is("12: good then", 3, () -> x.whole(12));
        place(x, NONE, NONE, NONE);
        check.is("12: all leave, the new one is bad", 2, () -> x.stroke());
        check.is("12: good at last", 4, () -> x.whole(12));
        check.is("12: bad at last", 8, () -> x.whole(13));
        check.is("12: none in the press", 0, () -> x.whole(10));
    }

    private static void promise12Tolerance() {
        StripDie x = die();
        place(x, 0, 2, 3);
        x.set(2, 2);
        x.set(4, 4);
        x.stroke();
        x.stroke();
        x.stroke();
        check.is("12: offset at station 2", 4, () -> x.pitch(2, 1));
        check.is("12: offset is the tolerance", 0, () -> x.pitch(2, 2));
        x.stroke();
        check.is("12: offset at station 3", 6, () -> x.pitch(3, 1));
        check.is("12: offset above the tolerance", 1, () -> x.pitch(3, 2));
        check.is("12: is bent all the same", 0b100, () -> x.pitch(3, 0));
        check.is("12: a spoiled part is bad", 2, () -> x.stroke());
        x.setStation(2, 2);
        x.set(4, 3);
        x.emptyPress();
        x.stroke();
        x.stroke();
        check.is("12: no operation, no harm", 0, () -> x.pitch(1, 2));
        x.set(4, 0);
        x.stroke();
        check.is("12: tolerance 0", 1, () -> x.pitch(2, 2));
        check.is("12: at station 1 there is no operation", 0, () -> x.pitch(1, 2));
        check.is("12: tolerance 0 and offset 0", 0, () -> x.pitch(0, 2));
        x.set(2, 9);
        x.emptyPress();
        x.setStation(2, 7);
        for (int i = 0; i < 8; i++) {
            x.stroke();
        }
        check.is("12: the greatest offset", 63, () -> x.pitch(7, 1));
    }

    private static void promise12Pilots() {
        StripDie x = die();
        place(x, 0, 2, 3);
        x.set(2, 3);
        x.set(3, 5);
        x.set(4, 3);
        x.setPilot(2, true);
        for (int i = 0; i < 4; i++) {
            x.stroke();
        }
        check.is("12: 6 is above the catch", 1, () -> x.pitch(2, 2));
        check.is("12: the offset stays", 6, () -> x.pitch(2, 1));
        x.emptyPress();
        x.set(3, 6);
        for (int i = 0; i < 3; i++) {
            x.stroke();
        }
        check.is("12: 6 is caught", 0, () -> x.pitch(2, 1));
        check.is("12: before the operation is done", 0, () -> x.pitch(2, 2));
        x.stroke();
        check.is("12: drifts from there", 3, () -> x.pitch(3, 1));
        check.is("12: not spoiled", 0, () -> x.pitch(3, 2));
        check.is("12: good", 1, () -> x.stroke());
        x.setPilot(2, false);
        x.setPilot(1, true);
        x.setPilot(3, true);
        x.set(3, 2);
        x.set(4, 50);
        x.emptyPress();
        x.stroke();
        x.stroke();
        check.is("12: a pilot without operations spoils", 1, () -> x.pitch(1, 2));
        x.set(3, 50);
        x.stroke();
        x.stroke();
        check.is("12: it is caught later", 0, () -> x.pitch(3, 1));
        check.is("12: but stays spoiled", 1, () -> x.pitch(3, 2));
        check.is("12: and is a bad part", 2, () -> x.stroke());
        check.is("12: the next one is not", 1, () -> x.stroke());
    }

    private static void promise12GoodOrBad() {
        StripDie x = die();
        place(x, 0, 0, 1);
        x.stroke();
        x.stroke();
        x.mark(0, 1, 1, 1, 1);
        check.is("12: a cell of the part is gone", 2, () -> x.stroke());
        x.mark(0, 1, 1, 1, 2);
        check.is("12: a link that is gone is no matter", 1, () -> x.stroke());
        x.mark(0, 1, 1, 1, 0);
        x.mark(1, 1, 1, 1, 0);
        check.is("12: a cell that is neither is there", 2, () -> x.stroke());
        x.mark(1, 1, 1, 1, 2);
        check.is("12: a link that is there is no matter", 1, () -> x.stroke());
        x.addPunch(0, 0, 4, 1);
        x.setStation(3, 0);
        x.stroke();
        x.stroke();
        check.is("12: the carrier is no matter", 1, () -> x.stroke());
        x.dropOperation(3);
        x.setCarrier(1);
        check.is("12: a part in the carrier is no matter", 1, () -> x.stroke());
        x.emptyPress();
        x.stroke();
        x.stroke();
        check.is("12: the first row is neither now, and there", 2, () -> x.stroke());
        x.mark(0, 0, 4, 1, 2);
        check.is("12: with links in the first row", 1, () -> x.stroke());
        x.addBend(1, 1, 1);
        check.is("12: another bend was not done", 2, () -> x.stroke());
        x.dropOperation(3);
        check.is("12: it is needed no more", 1, () -> x.stroke());
    }

    private static void promise12Slugs() {
        StripDie x = new StripDie();
        x.addPunch(0, 0, 3, 2);
        x.addPunch(1, 1, 3, 1);
        x.addPunch(5, 3, 1, 1);
        x.setStation(0, 0);
        x.setStation(1, 0);
        x.setStation(2, 1);
        x.stroke();
        check.is("12: a cell becomes one slug", 7, () -> x.whole(14));
        check.is("12: what is left", 24 - 7, () -> x.pitch(0, 3));
        x.stroke();
        check.is("12: slugs of two stations", 7 + 7 + 1, () -> x.whole(14));
        x.setStation(0, 1);
        x.stroke();
        check.is("12: cells that are gone give none", 15 + 3 + 1, () -> x.whole(14));
        x.emptyPress();
        check.is("12: slugs stay", 19, () -> x.whole(14));
    }

    private static void promise13() {
        StripDie x = die();
        check.is("13: empty", 0, () -> x.emptyPress());
        check.is("13: no bad parts", 0, () -> x.whole(13));
        place(x, 0, 0, 2);
        x.stroke();
        x.stroke();
        x.stroke();
        check.is("13: three pitches", 3, () -> x.emptyPress());
        check.is("13: none is there", 0, () -> x.whole(10));
        check.is("13: none at station 0", 0, () -> x.station(0, 3) + x.station(1, 3) + x.station(2, 3));
        check.is("13: bad parts", 3, () -> x.whole(13));
        check.is("13: strokes stay", 3, () -> x.whole(11));
        check.is("13: the next stroke cuts none off", 0, () -> x.stroke());
        check.is("13: undoable", 3, () -> x.undo());
        check.is("13: again", 2, () -> x.undo());
        check.is("13: undone", 3, () -> x.whole(10));
        check.is("13: bad parts undone", 0, () -> x.whole(13));
        check.is("13: cells undone", 0b0110_0110_1111, () -> x.left(2));
    }

    private static void promise17And18() {
        StripDie x = die();
        for (int w : FAR) {
            check.fails("17: station " + w, ARGUMENT, () -> x.pitch(w, 0));
            check.fails("17: what " + w, ARGUMENT, () -> x.pitch(0, w));
            check.fails("18: station " + w, ARGUMENT, () -> x.left(w));
        }
        check.fails("17: station 8", ARGUMENT, () -> x.pitch(8, 0));
        check.fails("17: what 4, though no pitch is there", ARGUMENT, () -> x.pitch(7, 4));
        check.fails("18: station 8", ARGUMENT, () -> x.left(8));
        for (int what = 0; what < 4; what++) {
            final int w = what;
            check.is("17: no pitch " + w, NONE, () -> x.pitch(0, w));
        }
        check.is("18: no pitch", 0, () -> x.left(0));
        place(x, 0, 2, 1);
        x.set(2, 4);
        x.stroke();
        x.stroke();
        int[] first = {0, 0, 0, 10};
        int[] second = {0b100, 4, 1, 10};
        for (int what = 0; what < 4; what++) {
            final int w = what;
            check.is("17: station 0, value " + w, first[w], () -> x.pitch(0, w));
            check.is("17: station 1, value " + w, second[w], () -> x.pitch(1, w));
            check.is("17: station 2, value " + w, NONE, () -> x.pitch(2, w));
        }
        check.is("18: station 0", 0b1110_1110_1111, () -> x.left(0));
        check.is("18: station 1", 0b1110_1110_1111, () -> x.left(1));
        check.is("18: station 2", 0, () -> x.left(2));
        x.begin(10, 6);
        x.addBend(0, 1, 1);
        x.setStation(0, 0);
        x.stroke();
        check.is("18: all of the greatest pitch", (1L << 60) - 1, () -> x.left(0));
        check.is("17: its number of cells", 60, () -> x.pitch(0, 3));
    }

    private static void promise26() {
        StripDie x = new StripDie();
        check.is("26: never", NONE, () -> x.strokesToGood());
        x.mark(0, 1, 6, 3, 1);
        check.is("26: at once", 1, () -> x.strokesToGood());
        StripDie y = die();
        check.is("26: without stations", NONE, () -> y.strokesToGood());
        place(y, 0, 1, 2);
        check.is("26: through three stations", 4, () -> y.strokesToGood());
        long digest = y.digest();
        y.strokesToGood();
        check.is("26: nothing is changed", digest, () -> y.digest());
        y.stroke();
        check.is("26: one less", 3, () -> y.strokesToGood());
        y.stroke();
        y.stroke();
        check.is("26: the next one", 1, () -> y.strokesToGood());
        y.stroke();
        check.is("26: and the next one", 1, () -> y.strokesToGood());
        y.set(4, 0);
        check.is("26: one that is done already", 1, () -> y.strokesToGood());
        y.stroke();
        check.is("26: all others will be spoiled", NONE, () -> y.strokesToGood());
        y.set(3, 0);
        y.setPilot(1, true);
        check.is("26: a pilot with a small catch does not help", NONE, () -> y.strokesToGood());
        y.set(3, 1);
        y.setPilot(2, true);
        check.is("26: pilots do, for the one at station 0", 3, () -> y.strokesToGood());
        y.setStation(2, 7);
        y.set(4, 7);
        y.setPilot(1, false);
        y.setPilot(2, false);
        y.emptyPress();
        check.is("26: eight stations", 9, () -> y.strokesToGood());
        y.setStation(2, 0);
        y.setStation(1, 0);
        check.is("26: a plan with a fault may give good parts", 2, () -> y.strokesToGood());
    }

    /** Among pitches that leave together, one that is good is enough. */
    private static void promise26Together() {
        StripDie x = die();
        place(x, 0, 0, 1);
        x.set(2, 0);
        x.stroke();
        x.stroke();
        place(x, NONE, NONE, NONE);
        check.is("26: a good one between bad ones", 1, () -> x.strokesToGood());
        check.is("12: a stroke with both", 2, () -> x.stroke());
        check.is("12: one good", 1, () -> x.whole(12));
        check.is("12: two bad", 2, () -> x.whole(13));
        check.is("26: nothing is saved", 3, () -> x.undo());
    }
}
