/** Promises 14, 15, 16, 19, 20, 24 and 25: values of the die. */
public final class ValueTest {
    private static final Class<IllegalArgumentException> ARGUMENT = IllegalArgumentException.class;
    private static final Class<IndexOutOfBoundsException> INDEX = IndexOutOfBoundsException.class;
    private static final int NONE = StripDie.NONE;
    private static final int[] FAR = {Integer.MIN_VALUE, -1, Integer.MAX_VALUE};

    private static final Check check = new Check("ValueTest");

    public static void main(String[] args) {
        promise14();
        promise14Loose();
        promise15();
        promise15Touching();
        promise16();
        promise19();
        promise20();
        promise24();
        promise25();
        check.end();
    }

    private static void promise14() {
        StripDie x = new StripDie();
        for (int w : FAR) {
            check.fails("14: what " + w, ARGUMENT, () -> x.cellSet(w));
        }
        check.fails("14: what 6", ARGUMENT, () -> x.cellSet(6));
        x.begin(3, 3);
        x.setCarrier(1);
        x.mark(0, 0, 3, 1, 1);
        x.mark(1, 1, 1, 2, 2);
        x.addPunch(0, 1, 2, 1);
        x.addPunch(0, 1, 1, 2);
        x.addBend(2, 1, 1);
        long[] due = {0b000_000_111, 0b000_010_000, 0b111_000_000, 0b001_011_000, 0b000_100_000, 0};
        for (int what = 0; what < due.length; what++) {
            final int w = what;
            check.is("14: set " + w, due[w], () -> x.cellSet(w));
        }
        x.addPunch(2, 1, 1, 1);
        check.is("14: nothing is forgotten", 0, () -> x.cellSet(4));
        check.is("14: fault 2 applies", 2, () -> x.dieFault());
    }

    private static void promise14Loose() {
        StripDie x = new StripDie();
        x.begin(4, 4);
        x.mark(0, 2, 4, 1, 1);
        check.is("14: all is loose", 0b1111_0000_0000, () -> x.cellSet(5));
        x.mark(3, 1, 1, 1, 2);
        check.is("14: a link holds it", 0, () -> x.cellSet(5));
        x.mark(1, 2, 1, 1, 0);
        check.is("14: a part of it hangs on nothing", 0b0001_0000_0000, () -> x.cellSet(5));
        x.mark(0, 3, 1, 1, 1);
        x.mark(1, 3, 1, 1, 1);
        check.is("14: corner to corner holds not", 0b0011_0001_0000_0000, () -> x.cellSet(5));
        x.mark(1, 3, 2, 1, 2);
        check.is("14: links below hold", 0, () -> x.cellSet(5));
        x.mark(3, 1, 1, 1, 0);
        check.is("14: loose again, links do not count", 0b0001_1101_0000_0000, () -> x.cellSet(5));
        x.setCarrier(2);
        check.is("14: the other carrier holds", 0, () -> x.cellSet(5));

        x.begin(3, 3);
        x.setCarrier(0);
        x.mark(2, 2, 1, 1, 1);
        x.mark(2, 1, 1, 1, 1);
        x.mark(0, 2, 1, 1, 1);
        check.is("14: the end of a row is no neighbor of the next", 0b001_000_000, () -> x.cellSet(5));

        // A way from the carrier to the last cell that winds through all rows.
        x.begin(10, 6);
        x.mark(9, 1, 1, 1, 2);
        x.mark(0, 2, 10, 1, 1);
        x.mark(0, 3, 1, 1, 2);
        x.mark(0, 4, 10, 1, 1);
        x.mark(9, 5, 1, 1, 1);
        check.is("14: a long way", 0, () -> x.cellSet(5));
    }

    private static void promise15() {
        StripDie x = new StripDie();
        check.fails("15: none there", INDEX, () -> x.operation(0, 0));
        check.fails("15: none there and no such value", INDEX, () -> x.operation(0, 8));
        x.addPunch(1, 2, 3, 2);
        x.addBend(2, 1, 4);
        for (int w : FAR) {
            check.fails("15: operation " + w, INDEX, () -> x.operation(w, 8));
            check.fails("15: what " + w, ARGUMENT, () -> x.operation(1, w));
        }
        check.fails("15: operation 2", INDEX, () -> x.operation(2, 0));
        check.fails("15: what 8", ARGUMENT, () -> x.operation(0, 8));
        x.setStation(1, 6);
        int[] punch = {0, 1, 2, 3, 2, 10, NONE, 0b10};
        int[] bend = {1, 2, 1, 4, 1, 4, 6, 0b01};
        for (int what = 0; what < 8; what++) {
            final int w = what;
            check.is("15: punch " + w, punch[w], () -> x.operation(0, w));
            check.is("15: bend " + w, bend[w], () -> x.operation(1, w));
        }
    }

    private static void promise15Touching() {
        StripDie x = new StripDie();
        x.addPunch(2, 1, 2, 1);
        x.addPunch(2, 1, 1, 1);
        x.addPunch(4, 1, 1, 1);
        x.addPunch(4, 2, 1, 1);
        x.addPunch(2, 2, 1, 2);
        x.addBend(0, 1, 1);
        int[] due = {0b010110, 0b010001, 0b001001, 0b000100, 0b000011, 0b000000};
        for (int o = 0; o < due.length; o++) {
            final int op = o;
            check.is("15: touching " + o, due[op], () -> x.operation(op, 7));
        }
        x.begin(4, 3);
        x.addPunch(3, 0, 1, 1);
        x.addPunch(0, 1, 1, 1);
        x.addPunch(3, 2, 1, 1);
        check.is("15: the end of a row does not touch the next", 0, () -> x.operation(0, 7));
        check.is("15: nor the start the one before", 0, () -> x.operation(1, 7));
        x.begin(10, 6);
        x.addPunch(9, 5, 1, 1);
        x.addPunch(0, 0, 10, 1);
        x.addBend(9, 4, 1);
        x.addPunch(0, 5, 1, 1);
        check.is("15: the last cell", 0b100, () -> x.operation(0, 7));
        check.is("15: the first row", 0, () -> x.operation(1, 7));
    }

    private static void promise16() {
        StripDie x = new StripDie();
        for (int w : FAR) {
            check.fails("16: station " + w, ARGUMENT, () -> x.station(w, 0));
            check.fails("16: what " + w, ARGUMENT, () -> x.station(0, w));
        }
        check.fails("16: station 8", ARGUMENT, () -> x.station(8, 0));
        check.fails("16: what 4", ARGUMENT, () -> x.station(0, 4));
        x.addPunch(0, 1, 1, 1);
        x.addBend(3, 1, 3);
        x.addPunch(0, 3, 2, 1);
        x.addPunch(5, 3, 1, 1);
        x.setStation(0, 2);
        x.setStation(1, 7);
        x.setStation(2, 2);
        check.is("16: its operations", 0b0101, () -> x.station(2, 0));
        check.is("16: their force", 10, () -> x.station(2, 1));
        check.is("16: the last station", 0b0010, () -> x.station(7, 0));
        check.is("16: its force", 3, () -> x.station(7, 1));
        check.is("16: a station without", 0, () -> x.station(0, 0));
        check.is("16: no force", 0, () -> x.station(0, 1));
        x.setPilot(6, true);
        check.is("16: a pilot", 1, () -> x.station(6, 2));
        check.is("16: no pilot", 0, () -> x.station(7, 2));
        x.stroke();
        check.is("16: a pitch", 1, () -> x.station(0, 3));
        check.is("16: no pitch", 0, () -> x.station(1, 3));
    }

    private static void promise19() {
        StripDie x = new StripDie();
        for (int w : FAR) {
            check.fails("19: what " + w, ARGUMENT, () -> x.whole(w));
        }
        check.fails("19: what 17", ARGUMENT, () -> x.whole(17));
        x.begin(5, 3);
        x.setCarrier(1);
        x.set(0, 40);
        x.set(1, 2);
        x.set(2, 3);
        x.set(3, 4);
        x.set(4, 6);
        x.mark(0, 0, 5, 2, 1);
        x.mark(0, 0, 2, 1, 0);
        x.addPunch(0, 0, 2, 1);
        x.addPunch(0, 0, 1, 1);
        x.setStation(0, 1);
        x.setStation(1, 0);
        x.setPilot(0, true);
        x.setPilot(3, true);
        x.setPilot(7, true);
        x.type(';');
        x.type(';');
        for (int i = 0; i < 5; i++) {
            x.stroke();
        }
        x.emptyPress();
        x.stroke();
        long[] due = {5, 3, 1, 40, 2, 3, 4, 6, 2, 2, 1, 6, 3, 2, 10, 3, 2};
        for (int what = 0; what < due.length; what++) {
            final int w = what;
            check.is("19: whole " + w, due[w], () -> x.whole(w));
        }
    }

    private static void promise20() {
        StripDie x = new StripDie();
        x.begin(4, 3);
        x.mark(0, 0, 4, 1, 1);
        x.addPunch(0, 0, 1, 1);
        check.is("20: no part but in the carrier", 1, () -> x.dieFault());
        x.mark(1, 2, 2, 1, 1);
        x.mark(3, 2, 1, 1, 2);
        x.addPunch(0, 1, 3, 2);
        x.addBend(0, 1, 2);
        check.is("20: punched part", 2, () -> x.dieFault());
        x.dropOperation(1);
        x.addPunch(3, 2, 1, 1);
        check.is("20: punched link", 2, () -> x.dieFault());
        x.dropOperation(2);
        check.is("20: punched carrier", 3, () -> x.dieFault());
        x.dropOperation(0);
        check.is("20: bend outside the part", 4, () -> x.dieFault());
        x.dropOperation(0);
        x.addBend(2, 2, 2);
        check.is("20: bend over a link", 4, () -> x.dieFault());
        x.dropOperation(0);
        x.addBend(2, 0, 1);
        check.is("20: bend in the carrier", 4, () -> x.dieFault());
        x.dropOperation(0);
        x.addBend(1, 2, 2);
        check.is("20: cells that nothing takes", 5, () -> x.dieFault());
        x.addPunch(0, 1, 4, 1);
        check.is("20: one cell that nothing takes", 5, () -> x.dieFault());
        x.addPunch(0, 1, 1, 2);
        check.is("20: the part is held by nothing", 6, () -> x.dieFault());
        x.setCarrier(2);
        check.is("20: the part is in the carrier", 1, () -> x.dieFault());
        x.setCarrier(0);
        x.dropOperation(1);
        x.addPunch(0, 1, 3, 1);
        x.mark(3, 1, 1, 1, 2);
        check.is("20: no fault", 0, () -> x.dieFault());
    }

    private static void promise24() {
        StripDie x = new StripDie();
        x.begin(4, 4);
        check.is("24: no part", 0, () -> x.fitsTwice());
        x.mark(0, 1, 1, 1, 1);
        check.is("24: a corner of the part", 1, () -> x.fitsTwice());
        x.mark(0, 1, 2, 1, 1);
        check.is("24: (1, 1) and (2, 2) are no neighbors, (1, 1) and (1, 2) are not both", 1,
                () -> x.fitsTwice() + (x.cellSet(0) == 0b0011_0000 ? 0 : 10));
        x.mark(0, 1, 3, 1, 1);
        check.is("24: neighbors", 0, () -> x.fitsTwice());
        x.mark(0, 1, 4, 1, 0);
        x.mark(1, 1, 1, 2, 1);
        check.is("24: beside each other", 0, () -> x.fitsTwice());
        x.mark(1, 1, 1, 2, 0);
        x.mark(0, 1, 1, 2, 1);
        check.is("24: two columns between", 1, () -> x.fitsTwice());
        x.mark(0, 3, 1, 1, 1);
        check.is("24: in the carrier", 0, () -> x.fitsTwice());
        x.setCarrier(2);
        check.is("24: not in the carrier any more", 1, () -> x.fitsTwice());
        x.mark(0, 1, 4, 2, 2);
        check.is("24: links are no part", 0, () -> x.fitsTwice());
        x.mark(0, 1, 1, 1, 1);
        check.is("24: links do not hinder", 1, () -> x.fitsTwice());
        x.begin(3, 3);
        x.mark(1, 1, 1, 1, 1);
        check.is("24: on itself", 0, () -> x.fitsTwice());
        x.begin(10, 6);
        x.mark(0, 1, 4, 4, 1);
        check.is("24: two of 16", 1, () -> x.fitsTwice());
        x.mark(4, 4, 1, 1, 1);
        check.is("24: two of 17, no neighbors", 1, () -> x.fitsTwice());
        x.mark(4, 3, 1, 1, 1);
        check.is("24: two of 18, no neighbors", 1, () -> x.fitsTwice());
        x.mark(4, 2, 1, 1, 1);
        check.is("24: two of 19, neighbors", 0, () -> x.fitsTwice());
    }

    private static void promise25() {
        StripDie x = new StripDie();
        check.is("25: no part", 1000, () -> x.scrap(false));
        check.is("25: no two parts", 1000, () -> x.scrap(true));
        x.begin(3, 5);
        x.mark(0, 0, 1, 2, 1);
        check.is("25: 14 of 15", 933, () -> x.scrap(false));
        check.is("25: 13 of 15", 866, () -> x.scrap(true));
        x.mark(0, 1, 3, 3, 1);
        check.is("25: 6 of 15", 400, () -> x.scrap(false));
        check.is("25: 6 of 15, for a second has no place", 400, () -> x.scrap(true));
        x.mark(0, 1, 3, 4, 1);
        check.is("25: 3 of 15", 200, () -> x.scrap(false));
        x.begin(10, 6);
        x.mark(0, 1, 4, 4, 1);
        check.is("25: 44 of 60", 733, () -> x.scrap(false));
        check.is("25: 28 of 60", 466, () -> x.scrap(true));
    }
}
