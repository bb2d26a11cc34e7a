/** Every size of a pitch: its cells, its carriers, the rectangles that have their place in it, its neighbors. */
public final class SizesTest {
    private static final Check check = new Check("SizesTest");

    public static void main(String[] args) {
        for (int columns = -1; columns <= 13; columns++) {
            for (int rows = -1; rows <= 9; rows++) {
                if (columns < 2 || columns > 10 || rows < 2 || rows > 6) {
                    noSuchPitch(columns, rows);
                } else {
                    pitch(columns, rows);
                }
            }
        }
        check.end();
    }

    private static void noSuchPitch(int columns, int rows) {
        StripDie x = new StripDie();
        check.fails("2: begin " + columns + " " + rows, IllegalArgumentException.class, () -> x.begin(columns, rows));
    }

    private static void pitch(int columns, int rows) {
        String at = columns + " by " + rows + " ";
        StripDie x = begun(columns, rows);
        check.is("19: columns " + at, columns, () -> x.whole(0));
        check.is("19: rows " + at, rows, () -> x.whole(1));
        carriers(at, columns, rows);
        cells(at, columns, rows);
        rectangles(at, columns, rows);
        neighbors(at, columns, rows);
        halfTurns(at, columns, rows);
        newPitch(at, columns, rows);
    }

    private static StripDie begun(int columns, int rows) {
        StripDie x = new StripDie();
        check.is("2: begin " + columns + " " + rows, 0, () -> x.begin(columns, rows));
        return x;
    }

    private static boolean isCarrier(int carrier, int y, int rows) {
        return carrier == 0 && y == 0 || carrier == 1 && y == rows - 1
                || carrier == 2 && (y == 0 || y == rows - 1);
    }

    private static void carriers(String at, int columns, int rows) {
        StripDie x = begun(columns, rows);
        for (int carrier = 0; carrier <= 2; carrier++) {
            x.setCarrier(carrier);
            long due = 0;
            for (int y = 0; y < rows; y++) {
                for (int i = 0; i < columns && isCarrier(carrier, y, rows); i++) {
                    due |= 1L << (y * columns + i);
                }
            }
            final long set = due;
            check.is("14: carrier " + carrier + " of " + at, set, () -> x.cellSet(2));
            check.is("14: fault 5 tells of all others " + at, (1L << (columns * rows)) - 1 - set, () -> x.cellSet(4));
        }
    }

    /** Each cell alone: its bit, also as a link and as a punch, with each carrier. */
    private static void cells(String at, int columns, int rows) {
        for (int carrier = 0; carrier <= 2; carrier++) {
            for (int cell = 0; cell < columns * rows; cell++) {
                int cx = cell % columns;
                int cy = cell / columns;
                long own = 1L << cell;
                long told = isCarrier(carrier, cy, rows) ? 0 : own;
                String name = at + "cell " + cx + " " + cy + " carrier " + carrier;
                StripDie x = begun(columns, rows);
                x.setCarrier(carrier);
                check.is("3: part " + name, 1, () -> x.mark(cx, cy, 1, 1, 1));
                check.is("14: part " + name, told, () -> x.cellSet(0));
                check.is("3: link " + name, 1, () -> x.mark(cx, cy, 1, 1, 2));
                check.is("14: part no more " + name, 0, () -> x.cellSet(0));
                check.is("14: link " + name, told, () -> x.cellSet(1));
                x.addBend(cx, cy, 1);
                check.is("14: no punch " + name, 0, () -> x.cellSet(3));
                x.addPunch(cx, cy, 1, 1);
                check.is("14: punch " + name, own, () -> x.cellSet(3));
            }
        }
    }

    /** All pieces of a row and of a column, from one before the first cell to one behind the last. */
    private static void rectangles(String at, int columns, int rows) {
        for (int first = -1; first <= Math.max(columns, rows); first++) {
            StripDie x = begun(columns, rows);
            for (int length = -1; length <= Math.max(columns, rows) + 1; length++) {
                piece(x, at, first, length, columns, true);
                piece(x, at, first, length, rows, false);
            }
        }
    }

    private static void piece(StripDie x, String at, int first, int length, int most, boolean row) {
        String name = at + (row ? "row " : "column ") + first + " " + length;
        boolean fine = length >= 1;
        for (int i = 0; i < length; i++) {
            fine &= first + i >= 0 && first + i < most;
        }
        int px = row ? first : 1;
        int py = row ? 1 : first;
        int width = row ? length : 1;
        int height = row ? 1 : length;
        if (!fine) {
            Class<IllegalArgumentException> due = IllegalArgumentException.class;
            check.fails("3: mark " + name, due, () -> x.mark(px, py, width, height, 1));
            check.fails("6: addPunch " + name, due, () -> x.addPunch(px, py, width, height));
            if (row) {
                check.fails("7: addBend " + name, due, () -> x.addBend(px, py, width));
            }
            return;
        }
        check.is("3: mark " + name, length, () -> x.mark(px, py, width, height, 1));
        x.mark(px, py, width, height, 0);
        check.is("6: addPunch " + name, 0, () -> x.addPunch(px, py, width, height));
        check.is("6: force " + name, 2 * (length + 1), () -> x.operation(0, 5));
        check.is("6: cells " + name, length, () -> Long.bitCount(x.cellSet(3)));
        x.dropOperation(0);
        if (row) {
            check.is("7: addBend " + name, 0, () -> x.addBend(px, py, width));
            check.is("7: force " + name, length, () -> x.operation(0, 5));
            x.dropOperation(0);
        }
    }

    /** A punch at each cell touches those at its neighbors and none else; the end of a row is none of the next. */
    private static void neighbors(String at, int columns, int rows) {
        for (int a = 0; a < columns * rows; a++) {
            StripDie x = begun(columns, rows);
            x.addPunch(a % columns, a / columns, 1, 1);
            for (int b = 0; b < columns * rows; b++) {
                x.addBend(b % columns, b / columns, 1);
                int steps = Math.abs(a % columns - b % columns) + Math.abs(a / columns - b / columns);
                String name = at + "cells " + a + " and " + b;
                check.is("15: touching " + name, steps <= 1 ? 0b10 : 0, () -> x.operation(0, 7));
                check.is("15: touched " + name, steps <= 1 ? 0b01 : 0, () -> x.operation(1, 7));
                x.dropOperation(1);
            }
        }
    }

    /** One cell of a part: where its half turn falls, and whether that is too near. */
    private static void halfTurns(String at, int columns, int rows) {
        for (int carrier = 0; carrier <= 2; carrier++) {
            StripDie x = begun(columns, rows);
            x.setCarrier(carrier);
            for (int cell = 0; cell < columns * rows; cell++) {
                int cx = cell % columns;
                int cy = cell / columns;
                int tx = columns - 1 - cx;
                int ty = rows - 1 - cy;
                boolean fits = !isCarrier(carrier, cy, rows) && !isCarrier(carrier, ty, rows)
                        && Math.abs(tx - cx) + Math.abs(ty - cy) > 1;
                int all = columns * rows;
                int one = isCarrier(carrier, cy, rows) ? 0 : 1;
                x.mark(cx, cy, 1, 1, 1);
                String name = at + "cell " + cx + " " + cy + " carrier " + carrier;
                check.is("24: fitsTwice " + name, fits ? 1 : 0, () -> x.fitsTwice());
                check.is("25: scrap of one " + name, 1000 * (all - one) / all, () -> x.scrap(false));
                check.is("25: scrap of two " + name, 1000 * (all - (fits ? 2 : one)) / all, () -> x.scrap(true));
                x.mark(cx, cy, 1, 1, 0);
            }
        }
    }

    private static void newPitch(String at, int columns, int rows) {
        StripDie x = begun(columns, rows);
        x.addPunch(columns - 1, rows - 1, 1, 1);
        x.addPunch(0, 0, columns, rows);
        x.setStation(0, 0);
        x.stroke();
        check.is("18: all but the last cell " + at, (1L << (columns * rows - 1)) - 1, () -> x.left(0));
        x.setStation(1, 0);
        x.stroke();
        check.is("18: none is left " + at, 0, () -> x.left(0));
        check.is("17: number of none " + at, 0, () -> x.pitch(0, 3));
        check.is("19: slugs " + at, 1 + columns * rows, () -> x.whole(14));
    }
}
