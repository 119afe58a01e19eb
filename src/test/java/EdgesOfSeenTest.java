/** Promises 19 to 21 at their edges, sentence by sentence: what is SEEN, DECADES. */
public final class EdgesOfSeenTest {
    private static final int NONE = Edge.NONE, UNKNOWN = Edge.UNKNOWN, OUTSIDE = Edge.OUTSIDE, STATE = Edge.STATE;
    private static final Edge edge = new Edge();

    public static void main(String[] args) {
        eightAtMost();
        roomToSee();
        tellsNothingOnThePlain();
        asWhenItIsAsked();
        seeRefuses();
        nothingIsSeenAnyMore();
        seedsRest();
        drawsOfTwoAndTen();
        allGoesOn();
        onThePlainInTheEnd();
        decadesRefuses();
        edge.end("EdgesOfSeenTest");
    }

    private static HeldTowns fullOfSeen(String table) {
        HeldTowns x = Due.read(table);
        for (int i = 1; i <= 8; i++) {
            edge.is("see, time " + i, x.see(0, i % 2, 0, i == 8), i); // the last can't be so
            edge.is("seen", x.count(8), i);
        }
        return x;
    }

    private static void eightAtMost() {
        edge.says(19, "SEEN (8 at most)");
        HeldTowns x = fullOfSeen("0,0;w500,w510");
        edge.still(x, "the ninth", Edge.FULL, () -> x.see(0, 0, 0, false));
        edge.still(x, "the ninth, of another", Edge.FULL, () -> x.see(1, 1, 99, true));
        edge.still(x, "a weight, told first", UNKNOWN, () -> x.see(2, 0, 0, true));
        edge.still(x, "a side, told first", OUTSIDE, () -> x.see(0, 2, 0, true));
        edge.still(x, "a force, told first", OUTSIDE, () -> x.see(0, 0, 100, true));
        edge.is("nothing of the other is seen", x.weight(1, 6), 511);
        HeldTowns eighth = Due.read("0,0;w500");
        for (int i = 0; i < 7; i++) {
            eighth.see(0, 0, 0, false);
        }
        edge.is("seven that tell nothing", eighth.weight(0, 6), 511);
        eighth.see(0, 0, 9, false);
        edge.is("the eighth tells", eighth.weight(0, 6), 256);
        HeldTowns first = Due.read("0,0;w500");
        first.see(0, 0, 9, false);
        for (int i = 0; i < 7; i++) {
            first.see(0, 0, 0, false);
        }
        edge.is("so does the first", first.weight(0, 6), 256);
    }

    private static void roomToSee() {
        edge.says(19, "It is SEEN: how much is.");
        HeldTowns x = fullOfSeen("0,0;w500");
        edge.is("forgotten", x.forget(), 8);
        edge.is("then one is", x.see(0, 0, 0, true), 1);
        x.image();
        for (int i = 2; i <= 8; i++) {
            edge.is("see", x.see(0, 0, 0, true), i);
        }
        edge.is("full", x.see(0, 0, 0, true), Edge.FULL);
        x.restore();
        edge.is("by the image there is room", x.see(0, 0, 0, true), 2);
        x.blow(0, 9);
        x.put(0, 1, 2);
        edge.is("what is done makes none", x.count(8), 2);
    }

    private static void tellsNothingOnThePlain() {
        edge.says(19, "(on the PLAIN, what is SEEN of it tells nothing)");
        HeldTowns x = Due.read("0,0;w504");
        edge.is("seen in a village", x.see(0, 0, 1, false), 1); // o >= 5
        edge.is("it tells", x.weight(0, 6), 511 - 15);
        x.lift(0);
        edge.is("lifted", x.weight(0, 6), 511);
        edge.is("seen on the plain, it counts", x.see(0, 1, 6, false), 2);
        edge.is("it tells nothing there", x.weight(0, 6), 511);
        x.put(0, 1, 4); // 5 o >= 30 to the east
        edge.is("put anywhere, both tell", x.weight(0, 6), 511 - 31);
        x.blow(0, 9);
        edge.is("it fell", x.weight(0, 2), NONE);
        edge.is("then nothing is told", x.weight(0, 6), 511);
        edge.is("but it is seen", x.count(8), 2);
    }

    private static void asWhenItIsAsked() {
        edge.says(19, "all as it is when that is asked");
        HeldTowns x = Due.read("0,0;s500,w912");
        x.see(0, 0, 4, false); // 5 o >= 20
        edge.is("at 0", x.weight(0, 6), 511 - 7);
        x.blow(0, 0); // 5 (o + 1) >= 20
        edge.is("with snow", x.weight(0, 6), 511 - 3);
        x.put(0, 0, 4); // o >= 20
        edge.is("at 4", x.weight(0, 6), 0);
        x.build(0, 4); // 12 + o >= 20
        edge.is("by its base", x.weight(0, 6), 128 + 256);
        x.put(1, 0, 4); // 12 + 9 + o
        edge.is("with another", x.weight(0, 6), 511);
        x.cut(1, 1); // 12 + 1 + o >= 20
        edge.is("with a lesser one", x.weight(0, 6), 64 + 128 + 256);
        x.cut(0, 9);
        edge.is("its own ounces are not known", x.weight(0, 6), 64 + 128 + 256);
        x.put(0, 1, 4); // o >= 20 in VILLAGE 1
        edge.is("in another village", x.weight(0, 6), 0);
    }

    private static void seeRefuses() {
        edge.says(19, "UNKNOWN: weight; OUTSIDE: side, force; FULL.");
        HeldTowns x = Due.read("0,0;w500,w510,w510");
        edge.range(x, "weight", UNKNOWN, 0, 2, i -> x.see(i, 0, 0, false));
        edge.range(x, "side", OUTSIDE, 0, 1, i -> x.see(0, i, 0, true));
        edge.range(x, "force", OUTSIDE, 0, 99, i -> x.see(0, 0, i, true));
        edge.is("six were taken", x.count(8), 6);
        edge.still(x, "a weight, told first", UNKNOWN, () -> x.see(3, 2, 100, true));
        edge.still(x, "a weight, told first", UNKNOWN, () -> x.see(-1, -1, -1, false));
    }

    private static void nothingIsSeenAnyMore() {
        edge.says(20, "Nothing is SEEN any more: how much was.");
        HeldTowns none = new HeldTowns();
        edge.still(none, "no table", 0, () -> none.forget());
        HeldTowns x = fullOfSeen("0,0;w500");
        edge.is("it can have none", x.weight(0, 6), 0);
        edge.is("eight", x.forget(), 8);
        edge.still(x, "none", 0, () -> x.forget());
        edge.is("it can have any", x.weight(0, 6), 511);
        edge.is("there is something to wait for", x.weight(0, 7), 5);
        x.see(0, 0, 9, false);
        edge.is("what was is not told again", x.weight(0, 6), 256);
        edge.is("one", x.forget(), 1);
        x.see(0, 0, 2, true);
        x.image();
        x.forget();
        x.restore();
        edge.is("an image keeps it", x.weight(0, 6), 1);
        edge.is("one, from the image", x.forget(), 1);
    }

    private static long next(long seed) {
        return (1103515245L * seed + 12345) % (1L << 31);
    }

    private static void seedsRest() {
        edge.says(21, "1103515245 times it and 12345, its rest by 2 to the 31");
        HeldTowns x = Due.read("0,0;w100");
        edge.is("0", x.decades(1, 0, 2), 1406932606);
        edge.is("1", x.decades(1, 1, 2), 2524885223L % (1L << 31));
        edge.is("the greatest", x.decades(1, Edge.HIGH, 2), 288979989);
        for (int seed : new int[] {0, 1, 2, 12345, 1 << 16, 1 << 30, Edge.HIGH - 1, Edge.HIGH}) {
            long s = seed;
            for (int winds = 1; winds <= 60; winds++) {
                s = next(next(s));
                if (winds < 3 || winds > 58) {
                    edge.is("seed " + seed + ", winds " + winds, x.decades(winds, seed, 2), s);
                }
            }
        }
    }

    private static void drawsOfTwoAndTen() {
        edge.says(21, "from a side by a DRAW of 2, of a FORCE by a DRAW of 10");
        HeldTowns forces = Due.read("0,8,9;w612,p122"); // 0 STANDS 0, 1 STANDS 8 (24 + 18), 2 all that is drawn
        HeldTowns west = Due.read("0,9;w904,p112"); // 9 to the west, 45 to the east
        HeldTowns east = Due.read("0,9;w900,p112");
        for (int seed = 0; seed < 100; seed++) {
            int side = (int) (next(seed) / 65536 % 2);
            int force = (int) (next(next(seed)) / 65536 % 10);
            String wind = "seed " + seed + ", side " + side + ", force " + force;
            edge.is(wind, forces.decades(1, seed, 0), (force > 0 ? 1 : 0) + (force > 8 ? 1 : 0));
            edge.is("west, " + wind, west.decades(1, seed, 0), side == 0 && force > 1 ? 1 : 0);
            edge.is("east, " + wind, east.decades(1, seed, 0), side == 1 && force > 1 ? 1 : 0);
        }
    }

    private static void allGoesOn() {
        edge.says(21, "and all goes on so: how often a VILLAGE LIFTS, all together");
        String table = "3,1,4;c904,s911,b820,w302,s224";
        for (int seed : new int[] {0, 77, Edge.HIGH}) {
            HeldTowns told = Due.read(table);
            HeldTowns blown = Due.read(table);
            long s = seed;
            int lifted = 0;
            for (int wind = 1; wind <= 60; wind++) {
                s = next(s);
                int side = (int) (s / 65536 % 2);
                s = next(s);
                lifted += blown.blow(side, (int) (s / 65536 % 10));
                edge.is("lifts by " + wind, told.decades(wind, seed, 0), lifted);
                edge.is("plain by " + wind, told.decades(wind, seed, 1), blown.count(2));
            }
        }
        edge.says(21, "as they would be");
        HeldTowns x = Due.read(table);
        x.blow(0, 9);
        x.image();
        edge.still(x, "nothing blew", x.decades(60, 5, 0), () -> x.decades(60, 5, 0));
        edge.is("the image is as it was", x.restore(), 1);
        edge.is("told again", x.decades(60, 5, 2), Due.read(table).decades(60, 5, 2));
    }

    private static void onThePlainInTheEnd() {
        edge.says(21, "how many WEIGHTS are on the PLAIN in the end");
        HeldTowns x = Due.read("9,9;w602,w612"); // 45: no drawn WIND LIFTS them
        edge.is("none lifts", x.decades(60, 1, 0), 0);
        edge.is("none", x.decades(60, 1, 1), 0);
        x.lift(1);
        edge.is("who was there", x.decades(1, 0, 1), 1);
        HeldTowns all = Due.read("0,0;w104,w114,w104,w114,w104");
        edge.is("all by 8 from the west", all.decades(1, 0, 1), 5); // SEED 0 draws 0 and 8
        edge.is("both lift", all.decades(1, 0, 0), 2);
        edge.is("they are there still", all.count(2), 0);
    }

    private static void decadesRefuses() {
        edge.says(21, "OUTSIDE: winds (1 to 60), seed (0 at least), what; STATE: no TABLE.");
        HeldTowns x = Due.read("1,2,3;s304,w312");
        edge.range(x, "winds", OUTSIDE, 1, 60, i -> x.decades(i, 0, 0));
        edge.range(x, "seed", OUTSIDE, 0, Edge.HIGH, i -> x.decades(1, i, 2));
        edge.range(x, "what", OUTSIDE, 0, 2, i -> x.decades(1, 0, i));
        HeldTowns none = new HeldTowns();
        edge.still(none, "no table", STATE, () -> none.decades(1, 0, 0));
        edge.still(none, "no table", STATE, () -> none.decades(60, Edge.HIGH, 2));
        edge.still(none, "winds, told first", OUTSIDE, () -> none.decades(61, 0, 0));
        edge.still(none, "a seed, told first", OUTSIDE, () -> none.decades(1, -1, 0));
        edge.still(none, "a what, told first", OUTSIDE, () -> none.decades(1, 0, 3));
    }
}
