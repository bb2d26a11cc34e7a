/** All that an object answers about itself, as one text: what is not in it can't be told from outside. */
final class View {
    private View() {
    }

    /** What the values and the what-ifs answer, some 160 calls; nothing about the undo stack. */
    static String values(StripDie x) {
        StringBuilder s = new StringBuilder();
        for (int what = 0; what <= 16; what++) {
            s.append(x.whole(what)).append(' ');
        }
        s.append("sets ");
        for (int what = 0; what <= 5; what++) {
            s.append(x.cellSet(what)).append(' ');
        }
        for (int o = 0; o < x.whole(8); o++) {
            s.append("operation ");
            for (int what = 0; what <= 7; what++) {
                s.append(x.operation(o, what)).append(' ');
            }
            s.append(x.planned(o)).append(' ');
        }
        for (int station = 0; station <= 7; station++) {
            s.append("station ");
            for (int what = 0; what <= 3; what++) {
                s.append(x.station(station, what)).append(' ').append(x.pitch(station, what)).append(' ');
            }
            s.append(x.left(station)).append(' ');
        }
        s.append("faults ").append(x.dieFault()).append(' ').append(x.planFault()).append(" what if ");
        s.append(x.planned(StripDie.NONE)).append(' ').append(x.leastLimit()).append(' ');
        s.append(x.fitsTwice()).append(' ').append(x.scrap(false)).append(' ').append(x.scrap(true)).append(' ');
        return s.append(x.strokesToGood()).append('\n').toString();
    }

    /** The values, what each undo brings back until one throws, and what the command text does then. */
    static String withUndoAndText(StripDie x) {
        StringBuilder s = new StringBuilder(values(x));
        s.append(x.digest()).append(undoStates(x));
        return s.append("text ").append(x.runCommands()).append(' ').append(x.digest()).toString();
    }

    /** What each undo answers and brings back, until one throws. */
    static String undoStates(StripDie x) {
        StringBuilder s = new StringBuilder("\nundo\n");
        for (int i = 0; i < 6; i++) {
            try {
                int left = x.undo();
                s.append(left).append(' ').append(content(x, left)).append('\n');
            } catch (IllegalStateException e) {
                return s.append("empty\n").toString();
            }
        }
        return s.append("more than 5\n").toString();
    }

    /** The digest as it would be with no states on the stack: each value is in it times a power of 31. */
    static long content(StripDie x, int states) {
        int behind = 17 + 6 + 8 * x.whole(8) + 8 * (4 + 4 + 1) + 6;
        long power = 1;
        for (int i = 0; i < behind; i++) {
            power *= 31;
        }
        return x.digest() - states * power;
    }
}
