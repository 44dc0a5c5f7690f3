/** What the tests by sentences share: a row of the document that is tested, answers that are due, benches and texts. */
final class Checks {
    static final int NO_SUCH = -1, BAD_VALUE = -2, BAD_TEXT = -3, TOO_MANY = -4, NOT_POSSIBLE = -5, NONE = -6;
    static final int ZERO = 1000000;

    private static int wrong = 0;
    private static String sentence = "";

    private Checks() { }

    /** The sentence of the document, in its own words, that the next answers are due by. */
    static void sentence(String words) {
        sentence = words;
    }

    static void due(String call, long got, long want) {
        if (got != want) fail(call + " answered " + got + ", due is " + want);
    }

    static void fail(String told) {
        wrong++;
        System.out.println("\"" + sentence + "\": " + told);
    }

    /** Tells how it went; the exit code is 1 if anything was wrong. */
    static void end() {
        System.out.println(wrong == 0 ? "all answers are as due" : wrong + " answers are not as due");
        if (wrong != 0) System.exit(1);
    }

    /** A bench with a shaft for each micro step. */
    static RampShafts bench(int... micros) {
        RampShafts x = new RampShafts();
        for (int number = 0; number < micros.length; number++) due("shaft", x.shaft(micros[number]), number);
        return x;
    }

    static void settings(RampShafts x, int start, int top, int gain) {
        if (x.set(RampShafts.START, start) < 0 || x.set(RampShafts.TOP, top) < 0 || x.set(RampShafts.GAIN, gain) < 0) {
            fail("set of START, TOP and GAIN to " + start + ", " + top + ", " + gain + " is refused");
        }
    }

    /** Steps need an interval of GRIP + PULL * load. */
    static void grips(RampShafts x, int grip, int pull) {
        if (x.set(RampShafts.GRIP, grip) < 0 || x.set(RampShafts.PULL, pull) < 0) {
            fail("set of GRIP and PULL to " + grip + ", " + pull + " is refused");
        }
    }

    static void passed(RampShafts x, int ticks) {
        for (int rest = ticks; rest > 0; rest -= 999) {
            if (x.pass(Math.min(rest, 999)) < 0) fail("pass is refused");
        }
    }

    static long packed(String text) {
        long characters = 0;
        for (int i = 0; i < text.length(); i++) characters = characters << 8 | text.charAt(i);
        return characters;
    }

    /** The pad then holds just this text. */
    static void write(RampShafts x, String text) {
        x.wipe();
        for (int at = 0; at < text.length(); at += 8) {
            String piece = text.substring(at, Math.min(at + 8, text.length()));
            due("put " + piece, x.put(packed(piece)), at + piece.length());
        }
    }

    static int faultOf(String text) {
        RampShafts x = new RampShafts();
        write(x, text);
        return x.fault();
    }
}
