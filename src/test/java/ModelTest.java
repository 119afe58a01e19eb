import java.util.Random;

/** Runs of drawn calls, each answered by HeldTowns as by SlowModel; the draws are the same each time. */
public final class ModelTest {
    private static final int RUNS = 400;
    private static final int CALLS = 512;
    private static final Due due = new Due();

    private final Random random;
    private final HeldTowns x = new HeldTowns();
    private final SlowModel model = new SlowModel();
    private final String name;
    private final boolean rarelyRefused;

    private ModelTest(int run) {
        random = new Random(1163 + run);
        name = "run " + run;
        rarelyRefused = run % 4 != 0;
    }

    public static void main(String[] args) {
        for (int run = 0; run < RUNS && due.wrong() == 0; run++) {
            new ModelTest(run).go();
        }
        due.end("ModelTest");
    }

    private void go() {
        int calls = 0;
        while (calls < CALLS - 60 && due.wrong() == 0) {
            calls += random.nextInt(40) == 0 || x.count(0) == 0 && random.nextInt(3) == 0 ? write() : call();
        }
        compare("digest", x.digest(), model.digest());
    }

    private void compare(String call, long got, long want) {
        due.is(name + ": " + call, got, want);
    }

    /** A number from 0 to most, seldom one beside these. */
    private int upTo(int most) {
        if (random.nextInt(rarelyRefused ? 60 : 8) == 0) {
            int[] odd = {-1, most + 1, Integer.MIN_VALUE, Integer.MAX_VALUE, most + 4};
            return odd[random.nextInt(odd.length)];
        }
        return random.nextInt(most + 1);
    }

    private String text() {
        int villages = 2 + random.nextInt(3);
        StringBuilder text = new StringBuilder();
        for (int i = 0; i < villages; i++) {
            text.append(i == 0 ? "" : ",").append(random.nextInt(10));
        }
        text.append(';');
        int weights = 1 + random.nextInt(5);
        for (int i = 0; i < weights; i++) {
            text.append(i == 0 ? "" : ",").append("wbcspwbcs".charAt(random.nextInt(9)));
            text.append(1 + random.nextInt(9)).append(random.nextInt(villages)).append(random.nextInt(5));
        }
        return text.toString();
    }

    private int write() {
        StringBuilder text = new StringBuilder(text());
        if (random.nextInt(3) == 0) {
            text.setCharAt(random.nextInt(text.length()), "0123459,;wbcspx ".charAt(random.nextInt(16)));
        }
        if (random.nextInt(8) == 0) {
            text.setLength(random.nextInt(text.length()));
        }
        if (random.nextInt(8) == 0) {
            text.append(",w101");
        }
        compare("blank", x.blank(), model.blank());
        for (char c : text.toString().toCharArray()) {
            compare("letter " + c, x.letter(c), model.letter(c));
        }
        compare("fault of " + text, x.fault(), model.fault());
        compare("digest with " + text, x.digest(), model.digest());
        compare("table of " + text, x.table(), model.table());
        return text.length() + 4;
    }

    private int call() {
        int a = upTo(4);
        int b = upTo(3);
        int c = upTo(4);
        int side = upTo(1);
        int force = random.nextBoolean() ? upTo(99) : upTo(12);
        switch (random.nextInt(24)) {
            case 0 -> letter();
            case 1 -> compare("fault", x.fault(), model.fault());
            case 2, 3 -> weight(a, upTo(7));
            case 4 -> compare("as " + a + " " + c, x.as(a, c), model.as(a, c));
            case 5 -> village(b, upTo(7));
            case 6 -> compare("lifts", x.lifts(b, side, force), model.lifts(b, side, force));
            case 7, 8, 9 -> compare("blow " + side + " " + force, x.blow(side, force), model.blow(side, force));
            case 10, 11 -> compare("put " + a + " " + b + " " + c, x.put(a, b, c), model.put(a, b, c));
            case 12 -> compare("lift " + a, x.lift(a), model.lift(a));
            case 13 -> cut(a, upTo(9));
            case 14 -> build(b, upTo(9));
            case 15 -> where(a, b, upTo(1));
            case 16 -> pack(1 + upTo(19), random.nextInt(3) == 0 ? upTo(1) : 10 + upTo(3));
            case 17 -> compare("mend", x.mend(), model.mend());
            case 18 -> odds(1 + upTo(3), upTo(1));
            case 19, 20 -> see(a, side, force);
            case 21 -> decades(1 + upTo(59), random.nextInt(4) == 0 ? upTo(99) : random.nextInt(), upTo(2));
            case 22 -> seldom();
            default -> count(upTo(11));
        }
        if (random.nextInt(10) == 0) {
            compare("digest", x.digest(), model.digest());
        }
        return 2;
    }

    private void letter() {
        int code = random.nextInt(3) == 0 ? upTo(127) : "0123;,wp".charAt(random.nextInt(8));
        compare("letter " + code, x.letter(code), model.letter(code));
    }

    private void weight(int a, int what) {
        compare("weight " + a + " " + what, x.weight(a, what), model.weight(a, what));
    }

    private void village(int b, int what) {
        compare("village " + b + " " + what, x.village(b, what), model.village(b, what));
    }

    private void cut(int a, int ounces) {
        compare("cut " + a + " " + ounces, x.cut(a, ounces), model.cut(a, ounces));
    }

    private void build(int b, int base) {
        compare("build " + b + " " + base, x.build(b, base), model.build(b, base));
    }

    private void where(int a, int b, int what) {
        compare("where " + a + " " + b + " " + what, x.where(a, b, what), model.where(a, b, what));
    }

    private void pack(int force, int what) {
        // What the model tries out grows as 21 to the 5: few of the greatest are enough.
        boolean large = x.count(0) * x.count(1) > 12 && x.count(1) == 5;
        if (!large || random.nextInt(40) == 0) {
            compare("pack " + force + " " + what, x.pack(force, what), model.pack(force, what));
        }
    }

    private void odds(int hours, int what) {
        compare("odds " + hours + " " + what, x.odds(hours, what), model.odds(hours, what));
    }

    private void see(int a, int side, int force) {
        // Mostly what is so, that something is left to be told apart.
        int home = x.weight(a, 2);
        boolean lifts = home >= 0 && random.nextInt(4) != 0 ? x.lifts(home, side, force) == 1 : random.nextBoolean();
        compare("see " + a + " " + side + " " + force, x.see(a, side, force, lifts), model.see(a, side, force, lifts));
        weight(a, 6);
        weight(a, 7);
    }

    private void decades(int winds, int seed, int what) {
        compare("decades " + winds + " " + seed, x.decades(winds, seed, what), model.decades(winds, seed, what));
    }

    private void count(int what) {
        compare("count " + what, x.count(what), model.count(what));
    }

    private void seldom() {
        switch (random.nextInt(5)) {
            case 0 -> compare("forget", x.forget(), model.forget());
            case 1, 2 -> compare("image", x.image(), model.image());
            case 3 -> compare("restore", x.restore(), model.restore());
            default -> compare("table", x.table(), model.table());
        }
    }
}
