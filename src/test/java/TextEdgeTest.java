/** Promises 27 to 29 at their edges: every byte at every place, every end, the longest text, every range of a command. */
public final class TextEdgeTest {
    private static final int NONE = StripDie.NONE;
    private static final String[] COMMANDS = {
        "pitch 7 5;", "part 1 2 3 1;", "link 0 01 2 1;", "punch 5 3 1 001;", "bend 2 2 4;", "place 0 7;", "plan;",
        "pilot 3;", "stroke 12;",
    };

    private static final Check check = new Check("TextEdgeTest");

    public static void main(String[] args) {
        everyByte();
        everyLength();
        for (String command : COMMANDS) {
            everyEnd(command);
            everyByteInPlace(command);
            everyByteBetween(command);
            withSpaces(command);
            withDigits(command);
            withNumbers(command);
        }
        nothingButSpaces();
        wordsThatAreNone();
        firstFaultOfSeveral();
        rangesOfPitch();
        rangesOfCells();
        rangesOfPlaceAndPilot();
        rangesOfStroke();
        stopsAtTheFirst();
        textStays();
        check.end();
    }

    private static StripDie with(String text) {
        StripDie x = new StripDie();
        Scenes.type(x, text);
        return x;
    }

    private static void due(String text, long answer) {
        check.is("29: <" + text + ">", answer, () -> with(text).runCommands());
    }

    private static void fault(String text, int fault) {
        due(text, -10 - fault);
    }

    private static void everyByte() {
        for (int v = -1; v <= 128; v++) {
            final int value = v;
            StripDie x = new StripDie();
            if (v < 0 || v > 127) {
                check.fails("27: type " + v, IllegalArgumentException.class, () -> x.type(value));
            } else {
                check.is("27: type " + v, 1, () -> x.type(value));
                check.is("29: the byte alone " + v, v == ' ' ? 0 : -10, () -> x.runCommands());
            }
            check.is("28: length " + v, v < 0 || v > 127 ? 0 : 1, () -> x.clearCommands());
        }
    }

    /** A text of each length up to the longest: full to the brim, and with one byte that is too much. */
    private static void everyLength() {
        StripDie x = new StripDie();
        for (int length = 1; length <= 150; length++) {
            final int due = length;
            check.is("27: length " + length, due, () -> x.type(' '));
            check.is("29: that many spaces " + length, 0, () -> x.runCommands());
            check.is("19: length " + length, due, () -> x.whole(16));
        }
        check.fails("27: one more", IllegalStateException.class, () -> x.type(' '));
        check.is("28: all of it", 150, () -> x.clearCommands());
        check.is("28: nothing is left", 0, () -> x.clearCommands());
        check.is("27: room again", 1, () -> x.type(';'));
        due(" ".repeat(145) + "plan;", 1);
        fault(" ".repeat(146) + "plan", 150);
        fault(" ".repeat(145) + "pilot", 150);
        fault(" ".repeat(145) + "pilo ", 145);
        fault(" ".repeat(149) + ";", 149);
        fault(" ".repeat(149) + "p", 149);
        fault("pilot 1" + " ".repeat(143), 150);
        due("pilot" + " ".repeat(143) + "1;", 1);
        due("plan;".repeat(30), 30);
        due("stroke 1;".repeat(16) + "plan; ", 17);
    }

    /** A text that stops anywhere in a command ends too soon, or is at fault with a word that is none. */
    private static void everyEnd(String command) {
        int word = 0;
        while (command.charAt(word) >= 'a') {
            word++;
        }
        for (int end = 1; end < command.length(); end++) {
            fault(command.substring(0, end), end < word ? 0 : end);
            fault("plan ; " + command.substring(0, end), 7 + (end < word ? 0 : end));
        }
        check.is("29: all of <" + command + ">", 1, () -> withPunch(command).runCommands());
    }

    /** What Model answers, for texts that are too many for hand. */
    private static long asModel(String text) {
        Model m = new Model();
        m.add(false, 0, 1, 1, 1);
        for (int i = 0; i < text.length(); i++) {
            m.type(text.charAt(i));
        }
        return m.runCommands();
    }

    private static void same(String text) {
        StripDie x = new StripDie();
        x.addPunch(0, 1, 1, 1);
        Scenes.type(x, text);
        check.is("29: as in Model <" + text + ">", asModel(text), () -> x.runCommands());
    }

    private static void everyByteInPlace(String command) {
        for (int place = 0; place < command.length(); place++) {
            for (char c = 0; c < 128; c++) {
                same(command.substring(0, place) + c + command.substring(place + 1));
                same("plan;" + command.substring(0, place) + c + command.substring(place + 1) + " stroke 1 ;");
            }
        }
    }

    private static void everyByteBetween(String command) {
        for (int place = 0; place <= command.length(); place++) {
            for (char c = 0; c < 128; c++) {
                same(command.substring(0, place) + c + command.substring(place));
                same(command.substring(0, place) + c + c + command.substring(place));
            }
            for (int length = 1; place + length <= command.length(); length++) {
                same(command.substring(0, place) + command.substring(place + length));
            }
        }
    }

    /** Spaces may stand in front of a command, of a number, of a semicolon and at the end, and nowhere else. */
    private static void withSpaces(String command) {
        String wide = "   " + command.replace(" ", "    ").replace(";", "   ;   ");
        check.is("29: wide <" + wide + ">", asModel(command), () -> withPunch(wide).runCommands());
        int space = command.indexOf(' ');
        if (space > 0) {
            fault(command.substring(0, space) + command.substring(space + 1), space);
        }
        fault(command.substring(0, 2) + " " + command.substring(2), 0);
        for (int i = 1; i < command.length(); i++) {
            char before = command.charAt(i - 1);
            char at = command.charAt(i);
            if (before >= '1' && before <= '9' && at == ';') {
                // Digits with a space between them are two numbers, one too many.
                fault(command.substring(0, i) + " 0;", i + 1);
            }
        }
    }

    private static StripDie withPunch(String text) {
        StripDie x = new StripDie();
        x.addPunch(0, 1, 1, 1);
        Scenes.type(x, text);
        return x;
    }

    /** One to three digits; the fourth one cannot stand, zeros in front or not. */
    private static void withDigits(String command) {
        for (int i = 0; i < command.length(); i++) {
            if (command.charAt(i) != ' ') {
                continue;
            }
            String front = command.substring(0, i + 1);
            int end = i + 1;
            while (command.charAt(end) >= '0' && command.charAt(end) <= '9') {
                end++;
            }
            String number = command.substring(i + 1, end);
            String zeros = "0".repeat(3 - number.length());
            String rest = command.substring(end);
            check.is("29: zeros in front <" + command + ">", asModel(command),
                    () -> withPunch(front + zeros + number + rest).runCommands());
            fault(front + "0" + zeros + number + rest, i + 4);
            fault(front + "0000" + rest, i + 4);
            fault(front + "9999" + rest, i + 4);
            fault(front + "1234567" + rest, i + 4);
            check.is("29: 999 is no fault <" + command + ">", 0, () -> withPunch(front + "999" + rest).runCommands());
        }
    }

    /** One number less, and one more. */
    private static void withNumbers(String command) {
        int last = command.lastIndexOf(' ');
        int end = command.length() - 1;
        if (last > 0) {
            fault(command.substring(0, last) + ";", last);
            fault(command.substring(0, last) + " ;", last + 1);
        }
        fault(command.substring(0, end) + " 1;", end + 1);
        fault(command.substring(0, end) + "  1 ;", end + 2);
        fault(command.substring(0, end) + ";;", end + 1);
        fault(command.substring(0, end) + ",", end);
        fault(command.substring(0, end) + " " + command, end + 1);
    }

    private static void nothingButSpaces() {
        for (int spaces = 0; spaces <= 150; spaces += 50) {
            StripDie x = with(" ".repeat(spaces));
            check.is("29: no command in " + spaces, 0, () -> x.runCommands());
            check.is("29: saves a state " + spaces, 0, () -> x.undo());
        }
    }

    private static void wordsThatAreNone() {
        String[] words = {
            "a", "z", "pla", "plann", "plans", "xplan", "pilots", "pilo", "strok", "strokes", "pitc", "pitches",
            "par", "parts", "lin", "links", "punc", "punches", "ben", "bends", "plac", "places", "stations", "plnn",
            "planpilot", "strokestroke", "aaaaaaaaaaaaaaaaaaaaaaaaaaaaaa", "begin", "mark", "undo",
        };
        for (String w : words) {
            fault(w, 0);
            fault(w + " ", 0);
            fault(w + ";", 0);
            fault(w + " 1;", 0);
            fault(w + "1", 0);
            fault(w + "P", 0);
            fault(" " + w + "\n", 1);
            fault("plan;" + w + ";;", 5);
        }
        fault("a".repeat(150), 0);
        fault(" " + "a".repeat(149), 1);
    }

    private static void firstFaultOfSeveral() {
        fault("plan 1; plam;", 5);
        fault("plam; plan 1;", 0);
        fault("plan; pilot; stroke;", 11);
        fault("pilot 1 2; plam;", 8);
        StripDie x = with("pilot 1; pilot 2; pilot 3");
        check.is("29: a fault at the end", -10 - 25, () -> x.runCommands());
        check.is("29: nothing is done, also not what stands before it", 0, () -> x.whole(15));
        check.fails("29: and nothing saved", IllegalStateException.class, () -> x.undo());
    }

    private static void rangesOfPitch() {
        for (int columns = 0; columns <= 12; columns++) {
            for (int rows = 0; rows <= 8; rows++) {
                boolean fine = columns >= 2 && columns <= 10 && rows >= 2 && rows <= 6;
                StripDie x = with("pitch " + columns + " " + rows + ";");
                check.is("29: pitch " + columns + " " + rows, fine ? 1 : 0, () -> x.runCommands());
                int due = fine ? 100 * columns + rows : 604;
                check.is("29: then " + columns + " " + rows, due, () -> 100 * x.whole(0) + x.whole(1));
            }
        }
    }

    private static void rangesOfCells() {
        String[] words = {"part", "link", "punch"};
        for (String w : words) {
            due(w + " 0 0 6 4;", 1);
            due(w + " 5 3 1 1;", 1);
            due(w + " 6 3 1 1;", 0);
            due(w + " 5 4 1 1;", 0);
            due(w + " 5 3 2 1;", 0);
            due(w + " 5 3 1 2;", 0);
            due(w + " 0 0 0 1;", 0);
            due(w + " 0 0 1 0;", 0);
            due(w + " 0 0 7 4;", 0);
            due(w + " 0 0 6 5;", 0);
            due(w + " 1 0 6 4;", 0);
            due(w + " 0 1 6 4;", 0);
        }
        due("bend 0 3 6;", 1);
        due("bend 5 0 1;", 1);
        due("bend 6 0 1;", 0);
        due("bend 0 4 1;", 0);
        due("bend 0 0 0;", 0);
        due("bend 0 0 7;", 0);
        due("bend 1 0 6;", 0);
        due("punch 0 0 1 1;".repeat(6), 6);
        due("punch 0 0 1 1;".repeat(7), 6);
        due("bend 0 0 1;".repeat(6) + "bend 9 9 9;", 6);
    }

    private static void rangesOfPlaceAndPilot() {
        for (int o = 0; o <= 6; o++) {
            due("bend 0 0 1;".repeat(6) + "place " + o + " 0;", o < 6 ? 7 : 6);
            due("bend 0 0 1;".repeat(o) + "place " + o + " 0;", o);
        }
        for (int s = 0; s <= 9; s++) {
            final int station = s;
            StripDie x = with("bend 0 0 1; place 0 " + s + ";");
            check.is("29: place " + s, s <= 7 ? 2 : 1, () -> x.runCommands());
            check.is("29: placed " + s, s <= 7 ? station : NONE, () -> x.operation(0, 6));
            StripDie y = with("pilot " + s + ";");
            check.is("29: pilot " + s, s <= 7 ? 1 : 0, () -> y.runCommands());
            check.is("29: pilots " + s, s <= 7 ? 1 : 0, () -> y.whole(15));
            check.is("29: the last station's " + s, s == 7 ? 1 : 0, () -> y.station(7, 2));
        }
    }

    private static void rangesOfStroke() {
        for (int n = 0; n <= 999; n++) {
            final int strokes = n;
            StripDie x = with("stroke " + n + ";");
            check.is("29: stroke " + n, n >= 1 && n <= 50 ? 1 : 0, () -> x.runCommands());
            check.is("29: strokes " + n, n >= 1 && n <= 50 ? strokes : 0, () -> x.whole(11));
        }
    }

    /** Each command that would throw ends the run: those before it stay done, those behind it are not done. */
    private static void stopsAtTheFirst() {
        String[] wrong = {
            "pitch 1 2;", "part 6 0 1 1;", "link 6 0 1 1;", "punch 6 0 1 1;", "bend 6 0 1;", "place 1 0;",
            "place 0 8;", "plan;", "pilot 8;", "stroke 0;", "stroke 51;",
        };
        for (String w : wrong) {
            StripDie x = new StripDie();
            x.addBend(0, 0, 6);
            x.set(0, 5);
            Scenes.type(x, "pilot 1;" + w + "pilot 2;" + w + "pilot 3;");
            String before = View.values(x);
            check.is("29: up to " + w, 1, () -> x.runCommands());
            check.is("29: the one before " + w, 1, () -> x.station(1, 2));
            check.is("29: none behind " + w, 1, () -> x.whole(15));
            check.is("29: saved " + w, 2, () -> x.undo());
            check.compare("29: undone " + w, before, View.values(x));
        }
    }

    private static void textStays() {
        StripDie x = with("pilot 1; stroke 1; pitch 5 5;");
        for (int i = 0; i < 6; i++) {
            check.is("29: run again " + i, 3, () -> x.runCommands());
            check.is("29: the same length " + i, 29, () -> x.whole(16));
        }
        x.begin(3, 3);
        check.is("2: begin keeps it", 29, () -> x.whole(16));
        x.undo();
        check.is("30: undo keeps it", 29, () -> x.whole(16));
        check.is("29: and it runs", 3, () -> x.runCommands());
    }
}
