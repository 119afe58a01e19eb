/** Counts answers that are not as due, and tells the first of them. */
final class Due {
    private static final int MOST_TOLD = 40;

    private int asked = 0;
    private int wrong = 0;

    void is(String call, long got, long want) {
        asked++;
        if (got != want) {
            tell(call + " answered " + got + ", due is " + want);
        }
    }

    void holds(String what, boolean so) {
        asked++;
        if (!so) {
            tell("not so: " + what);
        }
    }

    // One fault can make hundreds of answers wrong: the first tell enough.
    private void tell(String fault) {
        wrong++;
        if (wrong <= MOST_TOLD) {
            System.out.println(fault);
        }
    }

    int wrong() {
        return wrong;
    }

    void end(String name) {
        System.out.println(name + ": " + asked + " answers, " + wrong + " not as due");
        if (wrong != 0 || asked == 0) {
            System.exit(1);
        }
    }

    static HeldTowns written(String text) {
        HeldTowns x = new HeldTowns();
        write(x, text);
        return x;
    }

    static void write(HeldTowns x, String text) {
        for (int i = 0; i < text.length(); i++) {
            x.letter(text.charAt(i));
        }
    }

    /** A new object with a TABLE. */
    static HeldTowns read(String text) {
        HeldTowns x = written(text);
        if (x.table() < 0) {
            throw new IllegalArgumentException("no table: " + text);
        }
        return x;
    }
}
