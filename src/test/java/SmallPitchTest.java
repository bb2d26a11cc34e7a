/** Small pitches in all their ways, compared with Model: every marking, every pair of operations and stations. */
public final class SmallPitchTest {
    // Far below the 512 calls that an object is good for.
    private static final int MARKINGS_PER_OBJECT = 12;

    private static final Check check = new Check("SmallPitchTest");

    public static void main(String[] args) {
        everyMarking(2, 2);
        everyMarking(3, 2);
        everyMarking(2, 3);
        everyMarking(3, 3);
        everyMarking(2, 4);
        everyPair(3, 2);
        everyPair(2, 3);
        everyPlanOfThree();
        leastLimitIsLeast();
        check.end();
    }

    private static int power(int base, int exponent) {
        int p = 1;
        for (int i = 0; i < exponent; i++) {
            p *= base;
        }
        return p;
    }

    private static void everyMarking(int columns, int rows) {
        int cells = columns * rows;
        int markings = power(3, cells);
        StripDie x = null;
        Model m = null;
        for (int i = 0; i < markings; i++) {
            if (i % MARKINGS_PER_OBJECT == 0) {
                x = new StripDie();
                m = new Model();
                x.begin(columns, rows);
                m.begin(columns, rows);
            }
            for (int cell = 0, rest = i; cell < cells; cell++, rest /= 3) {
                if (m.s.marks[cell / columns][cell % columns] != rest % 3) {
                    x.mark(cell % columns, cell / columns, 1, 1, rest % 3);
                    m.mark(cell % columns, cell / columns, 1, 1, rest % 3);
                }
            }
            int carrier = i % 3;
            x.setCarrier(carrier);
            m.setCarrier(carrier);
            compareMarks("marking " + i + " of " + columns + " by " + rows, x, m);
            x.setCarrier((carrier + 1) % 3);
            m.setCarrier((carrier + 1) % 3);
            compareMarks("marking " + i + " of " + columns + " by " + rows, x, m);
        }
    }

    private static void compareMarks(String at, StripDie x, Model m) {
        for (int what = 0; what <= 5; what++) {
            final int w = what;
            check.is("14: set " + w + " " + at, m.cellSet(w), () -> x.cellSet(w));
        }
        check.is("20: " + at, m.dieFault(), () -> x.dieFault());
        check.is("24: " + at, m.fitsTwice(), () -> x.fitsTwice());
        check.is("25: one " + at, m.scrap(false), () -> x.scrap(false));
        check.is("25: two " + at, m.scrap(true), () -> x.scrap(true));
    }

    /** Two operations of all kinds, sizes and places. */
    private static void everyPair(int columns, int rows) {
        for (int first = 0; first < 2 * power(columns, 2) * power(rows, 2); first++) {
            for (int second = 0; second < 2 * power(columns, 2) * power(rows, 2); second++) {
                StripDie x = new StripDie();
                Model m = new Model();
                x.begin(columns, rows);
                m.begin(columns, rows);
                if (add(x, m, columns, rows, first) && add(x, m, columns, rows, second)) {
                    comparePair("operations " + first + " and " + second, x, m);
                }
            }
        }
    }

    private static boolean add(StripDie x, Model m, int columns, int rows, int number) {
        int rest = number / 2;
        int px = rest % columns;
        int width = rest / columns % columns + 1;
        int py = rest / columns / columns % rows;
        int height = rest / columns / columns / rows + 1;
        boolean bend = number % 2 == 1;
        if (px + width > columns || py + height > rows || bend && height > 1) {
            return false;
        }
        m.add(bend, px, py, width, height);
        if (bend) {
            x.addBend(px, py, width);
        } else {
            x.addPunch(px, py, width, height);
        }
        return true;
    }

    private static void comparePair(String at, StripDie x, Model m) {
        for (int o = 0; o < 2; o++) {
            for (int what = 0; what <= 7; what++) {
                final int operation = o;
                final int w = what;
                check.is("15: " + o + " " + w + " " + at, m.operation(operation, w), () -> x.operation(operation, w));
            }
        }
        check.is("14: punched " + at, m.cellSet(3), () -> x.cellSet(3));
        check.is("22: " + at, m.planned(-1), () -> x.planned(StripDie.NONE));
        check.is("22: first " + at, m.planned(0), () -> x.planned(0));
        check.is("22: second " + at, m.planned(1), () -> x.planned(1));
        check.is("23: " + at, m.leastLimit(), () -> x.leastLimit());
    }

    /** Three single cells that touch in a row, of all kinds, at all stations up to 5, with all gaps. */
    private static void everyPlanOfThree() {
        for (int kinds = 0; kinds < 8; kinds++) {
            for (int gap = 0; gap <= 3; gap++) {
                for (int first = -1; first <= 5; first++) {
                    planOfThree(kinds, gap, first);
                }
            }
        }
    }

    private static void planOfThree(int kinds, int gap, int first) {
        StripDie x = new StripDie();
        Model m = new Model();
        for (int o = 0; o < 3; o++) {
            boolean bend = (kinds >> o & 1) != 0;
            m.add(bend, o, 2, 1, 1);
            if (bend) {
                x.addBend(o, 2, 1);
            } else {
                x.addPunch(o, 2, 1, 1);
            }
        }
        x.set(0, 5);
        m.set(0, 5);
        x.set(1, gap);
        m.set(1, gap);
        x.setStation(0, first);
        m.setStation(0, first);
        String at = "kinds " + kinds + " gap " + gap + " stations " + first;
        for (int o = -1; o < 3; o++) {
            final int operation = o;
            check.is("22: " + at + " planned " + o, m.planned(operation), () -> x.planned(operation));
        }
        check.is("23: " + at, m.leastLimit(), () -> x.leastLimit());
        for (int second = -1; second <= 5; second++) {
            x.setStation(1, second);
            m.setStation(1, second);
            for (int third = -1; third <= 5; third++) {
                x.setStation(2, third);
                m.setStation(2, third);
                check.is("21: " + at + " " + second + " " + third, m.planFault(), () -> x.planFault());
                check.is("19: " + at + " " + second + " " + third, m.whole(9), () -> x.whole(9));
            }
        }
    }

    /** With the least limit there is a best plan, with one less there is none. */
    private static void leastLimitIsLeast() {
        for (int kinds = 0; kinds < 64; kinds++) {
            for (int gap = 0; gap <= 3; gap++) {
                StripDie x = new StripDie();
                x.set(1, gap);
                for (int o = 0; o < 6; o++) {
                    if ((kinds >> o & 1) != 0) {
                        x.addBend(o % 3 * 2, 1 + o / 3, 1 + o % 2);
                    } else {
                        x.addPunch(o % 3 * 2, 1 + o / 3, 1 + o % 2, 2);
                    }
                }
                int least = x.leastLimit();
                String at = "23: kinds " + kinds + " gap " + gap;
                if (least == StripDie.NONE) {
                    x.set(0, 999);
                    check.is(at + " none with 999", StripDie.NONE, () -> x.planned(StripDie.NONE));
                    continue;
                }
                x.set(0, least);
                check.is(at + " some with " + least, 0, () -> x.planned(StripDie.NONE) == StripDie.NONE ? 1 : 0);
                if (least > 1) {
                    x.set(0, least - 1);
                    check.is(at + " none below " + least, StripDie.NONE, () -> x.planned(StripDie.NONE));
                    check.is(at + " whatever the limit is", least, () -> x.leastLimit());
                }
            }
        }
    }
}
