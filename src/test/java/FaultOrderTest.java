/** Promises 20 and 21: of several faults that apply at once the first one is told; the edges of each. */
public final class FaultOrderTest {
    private static final int NONE = StripDie.NONE;

    private static final Check check = new Check("FaultOrderTest");

    public static void main(String[] args) {
        for (int faults = 0; faults < 32; faults++) {
            dieWith(faults, false);
            dieWith(faults, true);
        }
        noPartAtAll();
        partInTheCarrierAlone();
        bendsAndPunches();
        heldByALink();
        for (int faults = 0; faults < 16; faults++) {
            planWith(faults);
        }
        forceAtTheLimit();
        forceOfEachStation();
        stationsOfBends();
        touchingAtCorners();
        partlyPlaced();
        droppedCountNoMore();
        check.end();
    }

    private static boolean has(int faults, int bit) {
        return (faults >> bit & 1) != 0;
    }

    /** Bits 0 to 4 of faults stand for the faults 2 to 6; without a part, fault 1 comes before all of them. */
    private static void dieWith(int faults, boolean noPart) {
        StripDie x = new StripDie();
        x.begin(4, 3);
        x.mark(1, 1, 2, 2, 1);
        x.addPunch(0, 1, 1, 2);
        x.addPunch(3, 1, 1, 2);
        if (has(faults, 0)) {
            x.addPunch(1, 2, 1, 1);
        }
        if (has(faults, 1)) {
            x.addPunch(2, 0, 1, 1);
        }
        if (has(faults, 2)) {
            x.addBend(3, 2, 1);
        }
        if (has(faults, 3)) {
            x.mark(2, 1, 1, 1, 0);
        }
        if (has(faults, 4)) {
            x.mark(1, 1, 2, 1, 0);
            x.addPunch(1, 1, has(faults, 3) ? 1 : 2, 1);
        }
        if (noPart) {
            x.mark(0, 2, 4, 1, 2);
            x.mark(0, 1, 4, 1, has(faults, 3) ? 0 : 2);
        }
        int due = noPart ? 1 : faults == 0 ? 0 : 2 + Integer.numberOfTrailingZeros(faults);
        check.is("20: faults " + Integer.toBinaryString(faults) + (noPart ? " and 1" : ""), due, () -> x.dieFault());
        if (!noPart) {
            check.is("14: cells of fault 5, whatever the fault is " + faults, has(faults, 3) ? 1 : 0,
                    () -> Long.bitCount(x.cellSet(4)));
            check.is("14: cells of fault 6, whatever the fault is " + faults, has(faults, 4) ? 2 : 0,
                    () -> Long.bitCount(x.cellSet(5)));
        }
    }

    private static void noPartAtAll() {
        StripDie x = new StripDie();
        check.is("20: a new die", 1, () -> x.dieFault());
        x.mark(0, 0, 6, 4, 2);
        check.is("20: links alone", 1, () -> x.dieFault());
        x.mark(5, 3, 1, 1, 1);
        check.is("20: one cell of the part", 0, () -> x.dieFault());
    }

    private static void partInTheCarrierAlone() {
        StripDie x = new StripDie();
        x.begin(2, 2);
        x.mark(0, 0, 2, 1, 1);
        x.mark(0, 1, 2, 1, 2);
        check.is("20: the part is in the carrier", 1, () -> x.dieFault());
        x.setCarrier(1);
        check.is("20: it is not any more", 0, () -> x.dieFault());
        x.addBend(0, 0, 2);
        check.is("20: a bend over all of it", 0, () -> x.dieFault());
        x.setCarrier(2);
        check.is("20: all cells are carrier", 1, () -> x.dieFault());
    }

    private static void bendsAndPunches() {
        StripDie x = Scenes.plain();
        check.is("20: no fault", 0, () -> x.dieFault());
        x.addPunch(0, 1, 1, 2);
        x.addPunch(0, 2, 1, 1);
        check.is("20: cells that several punches take", 0, () -> x.dieFault());
        x.dropOperation(4);
        x.dropOperation(3);
        x.addBend(1, 1, 2);
        check.is("20: a bend over the part", 0, () -> x.dieFault());
        x.addBend(0, 1, 2);
        check.is("20: a bend whose first cell is none of the part", 4, () -> x.dieFault());
        x.dropOperation(4);
        x.addBend(2, 1, 2);
        check.is("20: a bend whose last cell is none of the part", 4, () -> x.dieFault());
        x.dropOperation(4);
        x.mark(1, 2, 1, 1, 2);
        check.is("20: a bend over a link", 4, () -> x.dieFault());
        x.dropOperation(2);
        check.is("20: a link needs no punch", 0, () -> x.dieFault());
        x.addPunch(1, 2, 1, 1);
        check.is("20: and may have none", 2, () -> x.dieFault());
    }

    private static void heldByALink() {
        StripDie x = new StripDie();
        x.begin(3, 4);
        x.mark(0, 3, 3, 1, 1);
        x.addPunch(0, 1, 2, 2);
        x.mark(2, 1, 1, 2, 2);
        check.is("20: held by links", 0, () -> x.dieFault());
        x.mark(2, 1, 1, 1, 0);
        x.addPunch(2, 1, 1, 1);
        check.is("20: links that reach nothing", 6, () -> x.dieFault());
        check.is("14: all of the part", 0b111L << 9, () -> x.cellSet(5));
        x.setCarrier(1);
        check.is("20: then it is in the carrier", 1, () -> x.dieFault());
        check.is("14: none is loose", 0, () -> x.cellSet(5));
        x.mark(2, 2, 1, 1, 1);
        x.mark(0, 0, 3, 1, 2);
        check.is("20: held from below", 0, () -> x.dieFault());
    }

    /** Bits 0 to 3 of faults stand for the faults 1 to 4 of a plan. */
    private static void planWith(int faults) {
        StripDie x = new StripDie();
        x.addPunch(0, 1, 1, 1);
        x.addPunch(1, 1, 1, 1);
        x.addBend(2, 1, 2);
        x.addPunch(5, 3, 1, 1);
        x.setStation(0, has(faults, 2) ? 1 : 0);
        x.setStation(1, 1);
        x.setStation(2, has(faults, 3) ? 0 : 2);
        x.setStation(3, has(faults, 0) ? NONE : 7);
        x.set(0, has(faults, 1) ? 3 : 30);
        int due = faults == 0 ? 0 : 1 + Integer.numberOfTrailingZeros(faults);
        check.is("21: faults " + Integer.toBinaryString(faults), due, () -> x.planFault());
    }

    private static void forceAtTheLimit() {
        StripDie x = new StripDie();
        x.addPunch(0, 1, 1, 1);
        x.addPunch(2, 1, 2, 1);
        x.addBend(0, 3, 3);
        for (int o = 0; o < 3; o++) {
            x.setStation(o, 7);
        }
        check.is("16: force", 4 + 6 + 3, () -> x.station(7, 1));
        x.set(0, 13);
        check.is("21: the force is the limit", 0, () -> x.planFault());
        x.set(0, 12);
        check.is("21: the force is the limit + 1", 2, () -> x.planFault());
        x.setStation(2, 6);
        check.is("21: less force in the station", 0, () -> x.planFault());
        x.set(0, 1);
        check.is("21: the least limit", 2, () -> x.planFault());
        x.set(0, 999);
        check.is("21: the greatest limit", 0, () -> x.planFault());
    }

    private static void forceOfEachStation() {
        for (int s = 0; s <= 7; s++) {
            final int station = s;
            StripDie x = new StripDie();
            x.addBend(0, 1, 2);
            x.addBend(3, 3, 2);
            x.setStation(0, s);
            x.setStation(1, 7 - s);
            x.set(0, 2);
            check.is("21: two stations at the limit " + s, 0, () -> x.planFault());
            x.setStation(1, s);
            check.is("21: one station above the limit " + s, 2, () -> x.planFault());
            check.is("16: its force " + s, 4, () -> x.station(station, 1));
            check.is("16: its operations " + s, 0b11, () -> x.station(station, 0));
            check.is("16: no force elsewhere " + s, 0, () -> x.station(7 - station, 1));
        }
    }

    /** A bend that touches a punch: too early up to the punch's station + gap, late enough from there on. */
    private static void stationsOfBends() {
        for (int gap = 0; gap <= 3; gap++) {
            StripDie x = new StripDie();
            x.set(1, gap);
            x.addPunch(2, 1, 2, 1);
            x.addBend(2, 2, 1);
            for (int punch = 0; punch <= 7; punch++) {
                for (int bend = 0; bend <= 7; bend++) {
                    x.setStation(0, punch);
                    x.setStation(1, bend);
                    int due = bend == punch ? 3 : bend < punch + 1 + gap ? 4 : 0;
                    check.is("21: gap " + gap + " punch " + punch + " bend " + bend, due, () -> x.planFault());
                }
            }
        }
    }

    private static void touchingAtCorners() {
        StripDie x = new StripDie();
        x.addPunch(1, 1, 2, 1);
        x.addPunch(3, 2, 1, 1);
        x.addBend(0, 2, 1);
        for (int o = 0; o < 3; o++) {
            x.setStation(o, 0);
        }
        check.is("21: corners do not touch", 0, () -> x.planFault());
        x.setStation(2, NONE);
        x.dropOperation(2);
        x.addBend(0, 2, 2);
        x.setStation(2, 1);
        check.is("21: a cell above a cell touches", 0, () -> x.planFault());
        x.setStation(2, 0);
        check.is("21: in the same station", 3, () -> x.planFault());
        x.begin(2, 2);
        x.addPunch(1, 0, 1, 1);
        x.addPunch(0, 1, 1, 1);
        x.setStation(0, 0);
        x.setStation(1, 0);
        check.is("21: the end of a row and the start of the next", 0, () -> x.planFault());
        check.is("10: both in one station", 1, () -> x.usePlan());
    }

    private static void partlyPlaced() {
        StripDie x = new StripDie();
        for (int o = 0; o < 6; o++) {
            x.addBend(o, 2 + o % 2, 1);
            check.is("21: one more without a station " + o, 1, () -> x.planFault());
        }
        for (int o = 5; o >= 0; o--) {
            final int operation = o;
            x.setStation(o, o);
            check.is("21: placed from " + o, o == 0 ? 0 : 1, () -> x.planFault());
            check.is("19: stations of the plan " + o, 6, () -> x.whole(9));
            check.is("15: its station " + o, operation, () -> x.operation(operation, 6));
        }
        x.setStation(5, NONE);
        check.is("21: the last one without a station", 1, () -> x.planFault());
        check.is("19: stations of the others", 5, () -> x.whole(9));
    }

    /** An operation that was dropped makes no fault any more, whichever it was. */
    private static void droppedCountNoMore() {
        for (int dropped = 0; dropped <= 1; dropped++) {
            StripDie x = new StripDie();
            x.addPunch(2, 2, 1, 1);
            x.addPunch(2, 2, 1, 1);
            x.setStation(0, 3);
            x.setStation(1, 3);
            check.is("21: two that touch", 3, () -> x.planFault());
            x.dropOperation(dropped);
            check.is("21: without " + dropped, 0, () -> x.planFault());
            check.is("15: none touches the other", 0, () -> x.operation(0, 7));
            x.undo();
            x.set(0, 7);
            check.is("21: too much force", 2, () -> x.planFault());
            x.dropOperation(dropped);
            check.is("21: less force without " + dropped, 0, () -> x.planFault());

            StripDie y = new StripDie();
            y.addPunch(2, 2, 1, 1);
            y.addBend(2, 2, 1);
            y.setStation(0, 3);
            y.setStation(1, 2);
            check.is("21: a bend too early", 4, () -> y.planFault());
            y.dropOperation(dropped);
            check.is("21: not early without " + dropped, 0, () -> y.planFault());
            y.undo();
            y.setStation(dropped, NONE);
            check.is("21: one without a station", 1, () -> y.planFault());
            y.dropOperation(dropped);
            check.is("21: it is gone " + dropped, 0, () -> y.planFault());
        }
    }
}
