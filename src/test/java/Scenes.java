/** States to try calls in; each is made anew, so that no object is used for more than its 512 calls. */
final class Scenes {
    interface Scene {
        StripDie make();
    }

    interface Act {
        long on(StripDie x);
    }

    private Scenes() {
    }

    static void type(StripDie x, String text) {
        for (int i = 0; i < text.length(); i++) {
            x.type(text.charAt(i));
        }
    }

    /** As at first. */
    static StripDie fresh() {
        return new StripDie();
    }

    /** A die without fault, 4 by 3: a part of two rows, a punch on each side, a bend below; no stations yet. */
    static StripDie plain() {
        StripDie x = new StripDie();
        x.begin(4, 3);
        x.mark(1, 1, 2, 2, 1);
        x.addPunch(0, 1, 1, 2);
        x.addPunch(3, 1, 1, 2);
        x.addBend(1, 2, 2);
        return x;
    }

    /** Six operations, four pitches, three pilots, four saved states and 150 bytes of text. */
    static StripDie full() {
        StripDie x = plain();
        x.mark(0, 0, 2, 1, 2);
        x.addPunch(0, 1, 1, 1);
        x.addBend(1, 2, 1);
        x.addPunch(3, 2, 1, 1);
        x.set(0, 40);
        x.set(3, 3);
        for (int o = 0; o < 6; o++) {
            x.setStation(o, o / 2 + (o > 3 ? 1 : 0));
        }
        type(x, "pilot 5; stroke 2; place 0 1;");
        type(x, " ".repeat(150 - x.whole(16)));
        x.setPilot(2, true);
        x.setPilot(0, true);
        x.setPilot(7, true);
        for (int i = 0; i < 6; i++) {
            x.stroke();
        }
        x.set(2, 2);
        return x;
    }

    /** Six operations that no plan can hold, for the force limit is too low; two saved states. */
    static StripDie withoutPlan() {
        StripDie x = new StripDie();
        type(x, "bend 0 1 2;punch 0 3 2 1;bend 4 1 1;punch 4 3 2 1;bend 0 2 1;punch 3 3 1 1;");
        x.runCommands();
        x.clearCommands();
        type(x, "place 1 2; plan; pilot 1;");
        x.set(0, 5);
        return x;
    }
}
