/** Promises 9, 10, 21 to 23: plans. */
public final class PlanTest {
    private static final Class<IllegalArgumentException> ARGUMENT = IllegalArgumentException.class;
    private static final Class<IllegalStateException> STATE = IllegalStateException.class;
    private static final Class<IndexOutOfBoundsException> INDEX = IndexOutOfBoundsException.class;
    private static final int NONE = StripDie.NONE;

    private static final Check check = new Check("PlanTest");

    public static void main(String[] args) {
        promise9();
        promise10();
        promise10WithoutPlan();
        promise21();
        promise21WithGap();
        promise22();
        promise22LowestFirst();
        promise22ByForce();
        promise22WithGaps();
        promise22WithoutPlan();
        promise22FewestFirst();
        promise22SixOfOneCell();
        promise22BendsAlone();
        promise22NoneLeft();
        promise23();
        promise23AtItsEnds();
        check.end();
    }

    private static void promise9() {
        StripDie x = new StripDie();
        check.fails("9: no operation", INDEX, () -> x.setStation(0, 0));
        check.fails("9: no operation and no station", INDEX, () -> x.setStation(0, 8));
        x.addPunch(0, 1, 1, 1);
        x.addPunch(3, 1, 1, 1);
        int[] operations = {-1, 2, Integer.MIN_VALUE, Integer.MAX_VALUE};
        for (int o : operations) {
            check.fails("9: operation " + o, INDEX, () -> x.setStation(o, 8));
        }
        int[] stations = {-2, 8, Integer.MIN_VALUE, Integer.MAX_VALUE};
        for (int s : stations) {
            check.fails("9: station " + s, ARGUMENT, () -> x.setStation(1, s));
        }
        check.is("9: from none", NONE, () -> x.setStation(1, 7));
        check.is("9: stations of the plan", 8, () -> x.whole(9));
        check.is("9: from 7", 7, () -> x.setStation(1, 0));
        check.is("9: stations then", 1, () -> x.whole(9));
        check.is("9: to none", 0, () -> x.setStation(1, NONE));
        check.is("9: no stations", 0, () -> x.whole(9));
        check.is("9: none again", NONE, () -> x.setStation(1, NONE));
        check.is("9: the other one has none", NONE, () -> x.operation(0, 6));
        check.is("9: undoable", 3, () -> x.undo());
        x.undo();
        check.is("9: undone", 0, () -> x.operation(1, 6));
    }

    private static void promise10() {
        StripDie x = new StripDie();
        check.is("10: no operations", 0, () -> x.usePlan());
        x.addPunch(0, 1, 1, 1);
        x.addPunch(1, 1, 1, 1);
        x.addPunch(5, 3, 1, 1);
        x.setStation(0, 7);
        check.is("10: two touch", 2, () -> x.usePlan());
        check.is("10: first", 0, () -> x.operation(0, 6));
        check.is("10: second", 1, () -> x.operation(1, 6));
        check.is("10: third", 0, () -> x.operation(2, 6));
        check.is("10: no fault", 0, () -> x.planFault());
        check.is("10: stations", 2, () -> x.whole(9));
        check.is("10: undoable", 3, () -> x.undo());
        check.is("10: undone", 7, () -> x.operation(0, 6));
        check.is("10: undone, too", NONE, () -> x.operation(2, 6));
    }

    private static void promise10WithoutPlan() {
        StripDie x = new StripDie();
        x.set(0, 3);
        x.addPunch(0, 1, 1, 1);
        x.setStation(0, 4);
        check.fails("10: force above the limit", STATE, () -> x.usePlan());
        check.is("10: the station stays", 4, () -> x.operation(0, 6));
        check.is("10: nothing was saved", 2, () -> x.undo());
    }

    private static void promise21() {
        StripDie x = new StripDie();
        check.is("21: no operations", 0, () -> x.planFault());
        x.set(0, 8);
        x.addPunch(0, 1, 1, 1);
        x.addPunch(1, 1, 1, 1);
        x.addPunch(3, 1, 2, 1);
        check.is("21: no stations", 1, () -> x.planFault());
        x.setStation(0, 7);
        x.setStation(1, 7);
        check.is("21: one without station", 1, () -> x.planFault());
        x.setStation(2, 7);
        check.is("21: 14 of 8, and two touch", 2, () -> x.planFault());
        x.set(0, 14);
        check.is("21: 14 of 14, but two touch", 3, () -> x.planFault());
        x.setStation(2, 0);
        check.is("21: the last two still touch", 3, () -> x.planFault());
        x.setStation(1, 6);
        check.is("21: none touches in a station", 0, () -> x.planFault());
        x.set(0, 5);
        check.is("21: 6 of 5 in the first station", 2, () -> x.planFault());
    }

    private static void promise21WithGap() {
        StripDie x = new StripDie();
        x.addBend(1, 1, 2);
        x.addPunch(3, 1, 1, 1);
        x.setStation(0, 3);
        x.setStation(1, 3);
        check.is("21: in the same station", 3, () -> x.planFault());
        x.setStation(1, 4);
        check.is("21: the bend is earlier", 4, () -> x.planFault());
        x.setStation(1, 2);
        check.is("21: the bend is one later", 0, () -> x.planFault());
        x.set(1, 1);
        check.is("21: not late enough", 4, () -> x.planFault());
        x.setStation(1, 1);
        check.is("21: late enough", 0, () -> x.planFault());
        x.set(1, 3);
        check.is("21: not with the greatest gap", 4, () -> x.planFault());
        x.setStation(0, 5);
        check.is("21: late enough for it", 0, () -> x.planFault());
        x.dropOperation(1);
        x.addPunch(4, 1, 1, 1);
        x.setStation(1, 7);
        check.is("21: a punch that does not touch it", 0, () -> x.planFault());
        x.addBend(1, 2, 1);
        x.setStation(2, 4);
        check.is("21: two bends need no gap", 0, () -> x.planFault());
    }

    private static void promise22() {
        StripDie x = new StripDie();
        check.is("22: no operations", 0, () -> x.planned(NONE));
        check.fails("22: not one", INDEX, () -> x.planned(0));
        check.fails("22: below NONE", INDEX, () -> x.planned(-2));
        x.addBend(2, 2, 2);
        x.addPunch(2, 1, 1, 1);
        check.fails("22: not two", INDEX, () -> x.planned(2));
        check.fails("22: most", INDEX, () -> x.planned(Integer.MAX_VALUE));
        check.fails("22: least", INDEX, () -> x.planned(Integer.MIN_VALUE));
        check.is("22: stations", 2, () -> x.planned(NONE));
        check.is("22: bend", 1, () -> x.planned(0));
        check.is("22: punch", 0, () -> x.planned(1));
        check.is("22: the plan stays", NONE, () -> x.operation(0, 6));
        check.is("22: nothing is saved", 1, () -> x.undo());
    }

    private static void promise22LowestFirst() {
        StripDie x = new StripDie();
        x.addPunch(0, 1, 1, 1);
        x.addPunch(5, 1, 1, 1);
        x.addPunch(2, 2, 1, 1);
        x.addPunch(2, 3, 1, 1);
        check.is("22: stations", 2, () -> x.planned(NONE));
        long[] due = {0, 0, 0, 1};
        for (int o = 0; o < 4; o++) {
            final int op = o;
            check.is("22: lowest " + o, due[o], () -> x.planned(op));
        }
        x.set(0, 8);
        due = new long[] {0, 0, 1, 1};
        check.is("22: two by two do not go, for two touch", 2, () -> x.planned(NONE));
        due = new long[] {0, 1, 0, 1};
        for (int o = 0; o < 4; o++) {
            final int op = o;
            final long d = due[o];
            check.is("22: lowest with two each " + o, d, () -> x.planned(op));
        }
    }

    private static void promise22ByForce() {
        StripDie x = new StripDie();
        x.begin(10, 6);
        x.addBend(0, 1, 4);
        x.addBend(6, 1, 4);
        x.addBend(0, 5, 3);
        x.addBend(4, 5, 3);
        x.addBend(8, 5, 2);
        x.addBend(3, 3, 2);
        x.set(0, 9);
        check.is("22: 18 in two nines", 2, () -> x.planned(NONE));
        // 4 and 4 leave 1 for the rest, so the first station takes 4, 3 and 2.
        int[] due = {0, 1, 0, 1, 0, 1};
        for (int o = 0; o < 6; o++) {
            final int op = o;
            check.is("22: nine " + o, due[o], () -> x.planned(op));
        }
        check.is("22: the least limit is nine", 4, () -> x.leastLimit());
        x.set(0, 8);
        check.is("22: 18 in three", 3, () -> x.planned(NONE));
        x.set(0, 4);
        check.is("22: 18 in fours", 5, () -> x.planned(NONE));
        x.set(0, 3);
        check.is("22: four is above three", NONE, () -> x.planned(NONE));
        check.is("22: and so for each", NONE, () -> x.planned(5));
    }

    private static void promise22WithGaps() {
        StripDie x = new StripDie();
        x.addBend(1, 1, 1);
        x.addPunch(0, 1, 1, 1);
        x.addPunch(2, 1, 1, 1);
        x.addPunch(5, 3, 1, 1);
        x.set(1, 3);
        check.is("22: a bend behind a gap", 5, () -> x.planned(NONE));
        int[] due = {4, 0, 0, 0};
        for (int o = 0; o < 4; o++) {
            final int op = o;
            check.is("22: gap " + o, due[o], () -> x.planned(op));
        }
        x.set(0, 8);
        check.is("22: punches in two stations, the far one late", 5, () -> x.planned(NONE));
        check.is("22: the far one", 1, () -> x.planned(3));
        x.set(0, 4);
        check.is("22: each alone", 6, () -> x.planned(NONE));
        check.is("22: the bend", 5, () -> x.planned(0));
        check.is("22: the near ones", 0 + 10 * 1, () -> x.planned(1) + 10 * x.planned(2));
        check.is("22: the far one then", 2, () -> x.planned(3));
    }

    private static void promise22WithoutPlan() {
        StripDie x = new StripDie();
        x.set(0, 999);
        x.set(1, 3);
        for (int i = 0; i < 4; i++) {
            x.addPunch(2, 2, 1, 1);
        }
        x.addBend(2, 2, 1);
        check.is("22: four punches and a bend", 8, () -> x.planned(NONE));
        check.is("22: the bend is last", 7, () -> x.planned(4));
        x.addPunch(2, 2, 1, 1);
        check.is("22: five and a bend", NONE, () -> x.planned(NONE));
        check.is("22: none for the first", NONE, () -> x.planned(0));
        check.is("22: no limit helps", NONE, () -> x.leastLimit());
        check.fails("22: nothing to use", STATE, () -> x.usePlan());
        x.set(1, 2);
        check.is("22: a smaller gap", 8, () -> x.planned(NONE));
        x.dropOperation(5);
        x.set(1, 3);
        x.addBend(2, 2, 1);
        check.is("22: four punches and two bends", NONE, () -> x.planned(NONE));
    }

    private static void promise23() {
        StripDie x = new StripDie();
        check.is("23: no operations", 1, () -> x.leastLimit());
        x.addBend(0, 1, 1);
        check.is("23: a bend of one", 1, () -> x.leastLimit());
        x.addPunch(3, 1, 2, 3);
        check.is("23: apart from it", 10, () -> x.leastLimit());
        x.set(0, 1);
        check.is("23: whatever the limit is", 10, () -> x.leastLimit());
        check.is("23: which stays", 1, () -> x.whole(3));
        x.begin(10, 6);
        x.set(1, 3);
        x.addPunch(0, 1, 9, 1);
        x.addPunch(0, 5, 1, 1);
        x.addPunch(9, 5, 1, 1);
        x.addPunch(2, 5, 1, 1);
        x.addPunch(7, 5, 1, 1);
        check.is("23: the greatest alone", 20, () -> x.leastLimit());
        x.begin(2, 3);
        x.addPunch(0, 0, 1, 1);
        x.addPunch(0, 2, 1, 1);
        x.addPunch(1, 2, 1, 1);
        x.addPunch(0, 0, 1, 1);
        x.addPunch(0, 2, 1, 1);
        x.addBend(0, 1, 2);
        // The bend leaves the stations 0 to 3 to the five punches.
        check.is("23: two punches of four together", 8, () -> x.leastLimit());
        check.is("23: nothing is saved", 3, () -> x.undo());
    }

    /** Fewest stations come first, and then the lowest station of operation 0. */
    private static void promise22FewestFirst() {
        StripDie x = new StripDie();
        x.set(0, 4);
        x.addBend(0, 3, 1);
        x.addPunch(3, 1, 1, 1);
        x.addBend(4, 1, 1);
        // With three stations the first bend could be at 0, the punch at 1 and the other bend at 2.
        check.is("22: two stations", 2, () -> x.planned(NONE));
        check.is("22: the first bend is not the lowest", 1, () -> x.planned(0));
        check.is("22: the punch is", 0, () -> x.planned(1));
        check.is("22: the other bend", 1, () -> x.planned(2));
        x.set(0, 5);
        check.is("22: room for both", 0, () -> x.planned(0));
        check.is("22: two stations still", 2, () -> x.planned(NONE));
    }

    private static void promise22SixOfOneCell() {
        StripDie x = new StripDie();
        for (int o = 0; o < 6; o++) {
            x.addPunch(2, 2, 1, 1);
            final int operations = o + 1;
            check.is("22: one station each " + o, operations, () -> x.planned(NONE));
        }
        for (int o = 0; o < 6; o++) {
            final int operation = o;
            check.is("22: in their order " + o, operation, () -> x.planned(operation));
        }
        check.is("10: six stations", 6, () -> x.usePlan());
        check.is("21: no fault", 0, () -> x.planFault());
        check.is("23: as much as one", 4, () -> x.leastLimit());
    }

    /** A bend that touches bends, but no punch, waits for no gap. */
    private static void promise22BendsAlone() {
        StripDie x = new StripDie();
        x.set(1, 3);
        x.addBend(0, 2, 2);
        x.addBend(2, 2, 2);
        x.addBend(4, 2, 2);
        check.is("22: two stations", 2, () -> x.planned(NONE));
        check.is("22: first", 0, () -> x.planned(0));
        check.is("22: second", 1, () -> x.planned(1));
        check.is("22: third", 0, () -> x.planned(2));
        x.addPunch(5, 3, 1, 1);
        check.is("22: with a punch that touches one of them", 5, () -> x.planned(NONE));
        check.is("22: only that one waits", 4, () -> x.planned(2));
        check.is("22: the others do not", 10, () -> x.planned(0) + 10 * x.planned(1));
        check.is("22: the punch", 0, () -> x.planned(3));
    }

    /** Operations that were dropped, or are of another die, count no more. */
    private static void promise22NoneLeft() {
        StripDie x = new StripDie();
        x.addPunch(0, 1, 1, 1);
        x.addBend(0, 1, 1);
        x.addPunch(0, 0, 6, 4);
        x.setStation(0, 0);
        x.setStation(1, 1);
        x.setStation(2, 7);
        x.set(0, 10);
        check.is("22: 20 is above 10", NONE, () -> x.planned(NONE));
        x.dropOperation(2);
        check.is("22: the greatest force is gone", 2, () -> x.planned(NONE));
        check.is("23: for the limit, too", 4, () -> x.leastLimit());
        check.is("21: no fault by it", 0, () -> x.planFault());
        check.is("19: nor stations", 2, () -> x.whole(9));
        check.is("16: nor force", 0, () -> x.station(7, 1) + x.station(7, 0));
        x.dropOperation(1);
        check.is("22: no bend any more", 1, () -> x.planned(NONE));
        x.addPunch(0, 1, 1, 1);
        check.is("22: a punch where the bend was", 2, () -> x.planned(NONE));
        x.begin(6, 4);
        check.is("22: none in another die", 0, () -> x.planned(NONE));
        check.is("23: nor there", 1, () -> x.leastLimit());
        check.is("21: nor there", 0, () -> x.planFault());
        check.is("19: nor there", 0, () -> x.whole(9));
        check.is("16: nor there", 0, () -> x.station(0, 1) + x.station(0, 0) + x.station(1, 1));
        x.addBend(5, 1, 1);
        check.is("22: one of the new die", 1, () -> x.planned(NONE));
        check.is("9: without a station", NONE, () -> x.operation(0, 6));
    }

    private static void promise23AtItsEnds() {
        StripDie x = new StripDie();
        x.begin(10, 6);
        x.addPunch(0, 0, 10, 6);
        check.is("23: the greatest punch", 32, () -> x.leastLimit());
        for (int o = 1; o < 5; o++) {
            x.addPunch(0, 0, 10, 6);
        }
        check.is("23: five of them, each alone", 32, () -> x.leastLimit());
        x.set(1, 3);
        x.addBend(9, 5, 1);
        check.is("23: five punches, four stations", NONE, () -> x.leastLimit());
        x.set(1, 2);
        check.is("23: five stations for them", 32, () -> x.leastLimit());
        x.begin(10, 6);
        for (int o = 0; o < 6; o++) {
            x.addBend(o, o, 1);
        }
        check.is("23: six bends of one", 1, () -> x.leastLimit());
        x.set(0, 1);
        check.is("23: with a limit of one", 6, () -> x.planned(NONE));
        x.set(0, 6);
        check.is("23: with a limit of six", 1, () -> x.planned(NONE));
        x.set(0, 5);
        check.is("23: with a limit of five", 2, () -> x.planned(NONE));
        check.is("23: the last one is the one more", 1, () -> x.planned(5));
    }
}
