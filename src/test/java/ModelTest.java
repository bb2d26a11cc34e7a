/** Long runs of calls, made by a counter and not by chance, on StripDie and on Model: all answers are the same. */
public final class ModelTest {
    private static final int RUNS = 600;
    // Nothing is promised about an object after its 512th call; the last 22 are those of compareAll.
    private static final int CALLS = 512 - 22;
    private static final int[] EDGES = {-1, 0, 1, Integer.MAX_VALUE, Integer.MIN_VALUE, -2, 7, 8};
    private static final String[] SHAPES = {
        "pitch # #;", "part # # # #;", "link # # # #;", "punch # # # #;", "bend # # #;", "place # #;", "plan;",
        "pilot #;", "stroke #;", "stroke #;", "place # #;", "plan ;", " pilot  # ;", "punch # # 1 1;", "part # # 2 2;",
    };
    private static final String SIGNS = "abpstrokelni 0129;;  A~";

    private static long seed;
    private static StripDie x;
    private static Model m;
    private static Check check;
    private static int calls;
    private static boolean longTexts;

    public static void main(String[] args) {
        check = new Check("ModelTest");
        int runs = args.length > 0 ? Integer.parseInt(args[0]) : RUNS;
        int first = args.length > 1 ? Integer.parseInt(args[1]) : 0;
        for (int run = first; run < first + runs; run++) {
            seed = run * 7919L + 17;
            for (int i = 0; i < 20; i++) {
                below(2);
            }
            x = new StripDie();
            m = new Model();
            // Some runs go on one way for long: mostly the press, mostly the plan, or all alike.
            int bias = below(4);
            longTexts = below(3) == 0;
            calls = 0;
            for (int i = 0; i < CALLS && calls < CALLS; i++) {
                step("run " + run + " call " + calls + " ", bias);
            }
            compareAll("run " + run + " at its end ");
        }
        check.end();
    }

    private static int below(int bound) {
        seed = seed * 6364136223846793005L + 1442695040888963407L;
        return (int) ((seed >>> 33) % bound);
    }

    /** A number that mostly stands from least to most, and now and then on an edge or far away. */
    private static int about(int least, int most) {
        int kind = below(24);
        if (kind == 0) {
            return EDGES[below(EDGES.length)];
        }
        if (kind == 1) {
            return least - 1;
        }
        if (kind == 2) {
            return most + 1;
        }
        return least + below(most - least + 1);
    }

    private interface Pair {
        long of(boolean real);
    }

    private static String answer(Pair call, boolean real) {
        try {
            return Long.toString(call.of(real));
        } catch (IllegalArgumentException | IllegalStateException | IndexOutOfBoundsException e) {
            return "throws " + e.getClass().getSimpleName();
        }
    }

    private static void both(String name, Pair call) {
        calls++;
        check.compare(name, answer(call, false), answer(call, true));
    }

    private static void step(String at, int bias) {
        int kind = below(100);
        if (bias == 1 && kind < 40) {
            press(at, below(10));
        } else if (bias == 2 && kind < 30) {
            plan(at, below(10));
        } else if (kind < 30) {
            dieCall(at, below(30));
        } else if (kind < 45) {
            press(at, below(10));
        } else if (kind < 62) {
            plan(at, below(10));
        } else if (kind < 78) {
            value(at, below(14));
        } else if (kind < 90) {
            text(at, below(longTexts ? 6 : 3));
        } else if (kind < 95) {
            both(at + "undo", r -> r ? x.undo() : m.undo());
        } else {
            both(at + "digest", r -> r ? x.digest() : m.digest());
        }
    }

    private static void dieCall(String at, int kind) {
        int a = about(0, m.s.columns - 1);
        int b = about(0, m.s.rows - 1);
        int c = about(1, below(3) == 0 ? m.s.columns : Math.max(1, m.s.columns - a));
        int d = about(1, below(3) == 0 ? m.s.rows : Math.max(1, m.s.rows - b));
        String cells = " " + a + " " + b + " " + c + " " + d;
        if (kind < 10) {
            int mark = about(0, 2);
            both(at + "mark" + cells + " " + mark, r -> r ? x.mark(a, b, c, d, mark) : m.mark(a, b, c, d, mark));
        } else if (kind < 16) {
            int h = below(2) == 0 ? 1 : d;
            both(at + "addPunch" + cells, r -> r ? x.addPunch(a, b, c, h) : m.addPunch(a, b, c, h));
        } else if (kind < 20) {
            both(at + "addBend" + cells, r -> r ? x.addBend(a, b, c) : m.addBend(a, b, c));
        } else if (kind < 22) {
            int o = about(0, 5);
            both(at + "dropOperation " + o, r -> r ? x.dropOperation(o) : m.dropOperation(o));
        } else if (kind < 24) {
            int carrier = about(0, 2);
            both(at + "setCarrier " + carrier, r -> r ? x.setCarrier(carrier) : m.setCarrier(carrier));
        } else if (kind < 29) {
            setting(at);
        } else {
            int columns = about(2, 10);
            int rows = about(2, 6);
            both(at + "begin " + columns + " " + rows, r -> r ? x.begin(columns, rows) : m.begin(columns, rows));
        }
    }

    private static void setting(String at) {
        int[] least = {1, 0, 0, 0, 0};
        int[] most = {999, 3, 9, 50, 50};
        int what = about(0, 4);
        boolean known = what >= 0 && what <= 4;
        int value = known ? about(least[what], below(4) == 0 ? most[what] : Math.min(most[what], 40)) : 1;
        both(at + "set " + what + " " + value, r -> r ? x.set(what, value) : m.set(what, value));
    }

    private static void press(String at, int kind) {
        int s = about(0, 7);
        if (kind < 7) {
            both(at + "stroke", r -> r ? x.stroke() : m.stroke());
        } else if (kind < 8) {
            both(at + "strokesToGood", r -> r ? x.strokesToGood() : m.strokesToGood());
        } else if (kind < 9) {
            boolean pilot = below(3) > 0;
            both(at + "setPilot " + s + " " + pilot, r -> r ? x.setPilot(s, pilot) : m.setPilot(s, pilot));
        } else if (below(5) == 0) {
            both(at + "emptyPress", r -> r ? x.emptyPress() : m.emptyPress());
        }
    }

    private static void plan(String at, int kind) {
        int o = about(-1, 5);
        int s = about(-1, below(3) == 0 ? 7 : 3);
        if (kind < 4) {
            both(at + "setStation " + o + " " + s, r -> r ? x.setStation(o, s) : m.setStation(o, s));
        } else if (kind < 6) {
            both(at + "planFault", r -> r ? x.planFault() : m.planFault());
        } else if (kind < 8) {
            both(at + "planned " + o, r -> r ? x.planned(o) : m.planned(o));
        } else if (kind < 9) {
            both(at + "usePlan", r -> r ? x.usePlan() : m.usePlan());
        } else if (m.s.ops.size() < 6 || below(4) == 0) {
            both(at + "leastLimit", r -> r ? x.leastLimit() : m.leastLimit());
        }
    }

    private static void value(String at, int kind) {
        int s = about(0, 7);
        int what = about(0, 3);
        int o = about(0, 5);
        switch (kind) {
            case 0, 1, 2 -> both(at + "pitch " + s + " " + what, r -> r ? x.pitch(s, what) : m.pitch(s, what));
            case 3, 4 -> both(at + "left " + s, r -> r ? x.left(s) : m.left(s));
            case 5 -> both(at + "station " + s + " " + what, r -> r ? x.station(s, what) : m.station(s, what));
            case 6, 7 -> both(at + "operation " + o + " " + s, r -> r ? x.operation(o, s) : m.operation(o, s));
            case 8 -> both(at + "cellSet " + o, r -> r ? x.cellSet(o) : m.cellSet(o));
            case 9 -> both(at + "fitsTwice", r -> r ? x.fitsTwice() : m.fitsTwice());
            case 10 -> both(at + "scrap", r -> r ? x.scrap(o > 2) : m.scrap(o > 2));
            case 11, 12 -> both(at + "dieFault", r -> r ? x.dieFault() : m.dieFault());
            default -> {
                int w = about(0, 16);
                both(at + "whole " + w, r -> r ? x.whole(w) : m.whole(w));
            }
        }
    }

    private static void text(String at, int kind) {
        if (kind == 0) {
            int v = about(0, 127);
            both(at + "type " + v, r -> r ? x.type(v) : m.type(v));
        } else if (kind == 1) {
            both(at + "clearCommands", r -> r ? x.clearCommands() : m.clearCommands());
        } else if (kind == 2) {
            both(at + "runCommands <" + m.text + ">", r -> r ? x.runCommands() : m.runCommands());
        } else {
            both(at + "clearCommands", r -> r ? x.clearCommands() : m.clearCommands());
            String t = commands();
            for (int i = 0; i < t.length() && calls < CALLS - 1; i++) {
                int v = t.charAt(i);
                both(at + "type " + v, r -> r ? x.type(v) : m.type(v));
            }
            if (calls < CALLS) {
                both(at + "runCommands <" + m.text + ">", r -> r ? x.runCommands() : m.runCommands());
            }
        }
    }

    private static String commands() {
        StringBuilder t = new StringBuilder();
        for (int n = below(7); n >= 0; n--) {
            String shape = SHAPES[below(SHAPES.length)];
            for (int i = 0; i < shape.length(); i++) {
                if (shape.charAt(i) != '#') {
                    t.append(shape.charAt(i));
                } else {
                    t.append(below(20) == 0 ? "0" : "").append(below(30) == 0 ? below(70) : below(5));
                }
            }
            if (below(8) == 0) {
                t.append(" ");
            }
        }
        if (below(4) == 0) {
            int place = below(t.length());
            char sign = SIGNS.charAt(below(SIGNS.length()));
            switch (below(4)) {
                case 0 -> t.insert(place, sign);
                case 1 -> t.setCharAt(place, sign);
                case 2 -> t.deleteCharAt(place);
                default -> t.setLength(place);
            }
        }
        return t.toString();
    }

    private static void compareAll(String at) {
        both(at + "digest", r -> r ? x.digest() : m.digest());
        both(at + "strokesToGood", r -> r ? x.strokesToGood() : m.strokesToGood());
        both(at + "leastLimit", r -> r ? x.leastLimit() : m.leastLimit());
        for (int o = -2; o < 7; o++) {
            int op = o;
            both(at + "planned " + o, r -> r ? x.planned(op) : m.planned(op));
        }
        for (int i = 0; i < 5; i++) {
            both(at + "undo", r -> r ? x.undo() : m.undo());
            both(at + "digest", r -> r ? x.digest() : m.digest());
        }
    }
}
