/** Promises 6 to 9 at their edges, sentence by sentence: what is told of WEIGHTS and VILLAGES. */
public final class EdgesOfWeightsTest {
    private static final int NONE = Edge.NONE, UNKNOWN = Edge.UNKNOWN, OUTSIDE = Edge.OUTSIDE;
    private static final Edge edge = new Edge();

    public static void main(String[] args) {
        onThePlain();
        bears();
        snowCounted();
        ouncesItCanHave();
        windToWaitFor();
        noWindToWaitFor();
        weightRefuses();
        noneSuch();
        asRefuses();
        standAtMost();
        leastOfBoth();
        whatIsInVillages();
        villageRefuses();
        fiveTimesTheForce();
        liftsRefuses();
        edge.end("EdgesOfWeightsTest");
    }

    private static void onThePlain() {
        edge.says(6, "(NONE for both: it is on the PLAIN)");
        HeldTowns x = Due.read("0,0;w504,w500,w512");
        x.blow(0, 99); // 0 FALLS in the east, 1 and 2 SLIDE
        x.put(1, 0, 0);
        x.blow(1, 99); // 1 FALLS in the west
        x.lift(2);
        for (int weight = 0; weight < 3; weight++) {
            edge.is("village of " + weight, x.weight(weight, 2), NONE);
            edge.is("place of " + weight, x.weight(weight, 3), NONE);
            edge.is("ounces of " + weight, x.weight(weight, 1), 5);
        }
        x.put(0, 0, 0);
        edge.is("put again, its village", x.weight(0, 2), 0);
        edge.is("put again, its place", x.weight(0, 3), 0);
    }

    private static void bears() {
        edge.says(6, "what it BEARS now");
        HeldTowns x = Due.read("9,9;w102,b102,c102,s102,p102");
        edge.are("of 1 ounce", i -> x.weight(i, 4), 0, 1, 2, 1, 1, 100);
        for (int i = 0; i < 5; i++) {
            x.cut(i, 9);
        }
        edge.are("of 9 ounces", i -> x.weight(i, 4), 0, 9, 18, 9, 9, 100);
        x.blow(0, 0);
        edge.are("behind a wind", i -> x.weight(i, 4), 0, 9, 18, 8, 10, 100);
        for (int i = 0; i < 5; i++) {
            x.lift(i);
        }
        edge.are("on the plain", i -> x.weight(i, 4), 0, 9, 18, 8, 9, 100);
    }

    private static void snowCounted() {
        edge.says(6, "WINDS that are counted of SNOW (0 of others)");
        HeldTowns x = Due.read("9,9;w102,b112,c902,s912,p102");
        int[] counted = {0, 1, 2, 3, 3, 3};
        for (int winds = 0; winds < counted.length; winds++) {
            edge.are("behind " + winds, i -> x.weight(i, 5), 0, 0, 0, 0, counted[winds], 0);
            edge.is("bears behind " + winds, x.weight(3, 4), 9 + counted[winds]);
            x.blow(winds % 2, 0);
        }
    }

    private static void ouncesItCanHave() {
        edge.says(6, "OUNCES it can have, as bits");
        edge.is("nothing is seen", Due.read("0,0;w500").weight(0, 6), 511);
        // To the west 5 times its OUNCES
        canHave(0, false, 511);
        canHave(0, true, 0);
        canHave(1, false, 511);
        canHave(1, true, 0);
        canHave(2, true, 1);
        canHave(2, false, 510);
        canHave(9, true, 255);
        canHave(9, false, 256);
        canHave(10, true, 511);
        canHave(10, false, 0);
        canHave(99, true, 511);
        HeldTowns x = Due.read("0,0;w500");
        x.see(0, 0, 9, false);
        x.see(0, 0, 2, true);
        edge.is("9 by one, 1 by the other", x.weight(0, 6), 0);
        HeldTowns pebble = Due.read("0,0;p500");
        pebble.see(0, 0, 99, false);
        edge.is("a pebble of any", pebble.weight(0, 6), 511);
        pebble.see(0, 1, 20, true); // 100 to the east
        edge.is("a pebble of none", pebble.weight(0, 6), 0);
    }

    private static void canHave(int force, boolean lifts, int bits) {
        HeldTowns x = Due.read("0,0;w500");
        x.see(0, 0, force, lifts);
        edge.is((lifts ? "lifts by " : "stands ") + force, x.weight(0, 6), bits);
    }

    private static void windToWaitFor() {
        edge.says(6, "7 WAIT");
        // To the west 5 o: FORCE 5 LIFTS 1 to 4, FORCE 6 LIFTS 1 to 5; 5 are left at worst by both.
        HeldTowns x = Due.read("0,0;w500");
        edge.is("of like ones the least", x.weight(0, 7), 5);
        x.see(0, 0, 9, false);
        edge.is("one is left by any, the least", x.weight(0, 7), 0);
        x.forget();
        x.see(0, 0, 8, false); // 8, 9
        edge.is("one is left by this alone", x.weight(0, 7), 9);
        // 3 + o to the west leaves 6 at worst (5 and 6 OUNCES are not told apart), 3 + 5 o to the east leaves 5.
        HeldTowns east = Due.read("1,0;w504");
        edge.is("from the east", east.weight(0, 7), 105);
        // 8 and 9 at PLACE 4: from the west both STAND 1 and LIFT by 2, from the east 9 alone STANDS 9.
        HeldTowns two = Due.read("0,0;w504");
        two.see(0, 1, 8, false);
        edge.is("of two, from the east", two.weight(0, 7), 109);
        // 400 + 90 + o to the west: FORCE 99 LIFTS 1 to 4
        HeldTowns great = Due.read("0,0;w504,p101,b900");
        edge.is("the greatest force", great.weight(0, 7), 99);
        // The same turned about; to the west 218 + 5 o: FORCE 48 LIFTS 1 to 4, as good, and less.
        HeldTowns turned = Due.read("0,0;w500,p103,b904");
        edge.is("the side is looked at first", turned.weight(0, 7), 48);
        // 100 + 400 and more to the west, 500 + 200 and more to the east
        HeldTowns none = Due.read("0,0;w502,p104,p101");
        edge.is("no wind tells", none.weight(0, 7), 0);
        // 500 + 18 + o to the west tells nothing; to the east 100 + 90 + 5 o
        HeldTowns far = Due.read("0,0;w504,p100,b904");
        edge.is("where the west tells nothing", far.weight(0, 7), 143);
    }

    private static void noWindToWaitFor() {
        edge.says(6, "WAIT (NONE)");
        HeldTowns x = Due.read("0,0;w500,w510");
        x.see(0, 0, 0, true);
        edge.is("it can have none", x.weight(0, 7), NONE);
        edge.is("the other can", x.weight(1, 7), 5);
        x.lift(0);
        edge.is("on the plain it can have any", x.weight(0, 6), 511);
        edge.is("on the plain", x.weight(0, 7), NONE);
        x.lift(1);
        edge.is("on the plain, nothing seen", x.weight(1, 7), NONE);
    }

    private static void weightRefuses() {
        edge.says(6, "UNKNOWN; OUTSIDE.");
        HeldTowns one = Due.read("1,2;w304");
        HeldTowns five = Due.read("1,2;w304,w304,w304,w304,w304");
        edge.range(one, "weight of one", UNKNOWN, 0, 0, i -> one.weight(i, 0));
        edge.range(five, "weight of five", UNKNOWN, 0, 4, i -> five.weight(i, 1));
        edge.range(one, "what", OUTSIDE, 0, 7, i -> one.weight(0, i));
        edge.still(one, "unknown is told first", UNKNOWN, () -> one.weight(1, 8));
        edge.still(one, "unknown is told first", UNKNOWN, () -> one.weight(-1, -1));
    }

    private static void noneSuch() {
        edge.says(7, "NONE: it is none such (the cast fails).");
        HeldTowns x = Due.read("1,2;w300,b411,c512,s613,p704");
        edge.are("as a weight", i -> x.as(i, 0), 0, 0, 1, 2, 3, 4);
        edge.are("as brass", i -> x.as(i, 1), 0, NONE, 1, NONE, NONE, 4);
        edge.are("as chipped", i -> x.as(i, 2), 0, NONE, NONE, 2, NONE, NONE);
        edge.are("as snow", i -> x.as(i, 3), 0, NONE, NONE, NONE, 3, NONE);
        edge.are("as a pebble", i -> x.as(i, 4), 0, NONE, NONE, NONE, NONE, 4);
        x.lift(4);
        edge.is("on the plain, too", x.as(4, 1), 4);
        edge.is("and of number 0 it is 0", Due.read("1,2;p300").as(0, 1), 0);
    }

    private static void asRefuses() {
        edge.says(7, "UNKNOWN; OUTSIDE.");
        HeldTowns x = Due.read("1,2;p300,p300");
        edge.range(x, "weight", UNKNOWN, 0, 1, i -> x.as(i, 0));
        edge.range(x, "kind", OUTSIDE, 0, 4, i -> x.as(1, i));
        edge.still(x, "unknown is told first", UNKNOWN, () -> x.as(2, 5));
        edge.still(x, "unknown is told first", UNKNOWN, () -> x.as(-1, -1));
    }

    private static void standAtMost() {
        edge.says(8, "the greatest such FORCE is its STAND there (99 at most)");
        // 400 + 90 + 5 to the west, 200 + 18 + 1 to the east
        HeldTowns x = Due.read("0,0;p101,b900,w100");
        edge.is("495", x.village(0, 1), 495);
        edge.is("stand of 495", x.village(0, 3), 99);
        edge.is("stand of 219", x.village(0, 4), 43);
        x.put(2, 0, 1);
        edge.is("494", x.village(0, 1), 494);
        edge.is("stand of 494", x.village(0, 3), 98);
        edge.is("stand of 220", x.village(0, 4), 44);
        x.put(0, 0, 0);
        edge.is("594", x.village(0, 1), 594);
        edge.is("stand of 594", x.village(0, 3), 99);
        // the most: five PEBBLES at 4, BASE 9
        HeldTowns most = Due.read("9,0;p104,p104,p104,p104,p104");
        edge.is("hold of all", most.village(0, 2), 2527);
        edge.is("stand of all", most.village(0, 4), 99);
        edge.is("hold of nothing", most.village(1, 1), 0);
        edge.is("stand of nothing", most.village(1, 3), 0);
        edge.is("nothing, to the east", most.village(1, 4), 0);
        HeldTowns small = Due.read("0,0;w404");
        edge.is("stand of 4", small.village(0, 3), 0);
        small.cut(0, 5);
        edge.is("stand of 5", small.village(0, 3), 1);
        edge.is("stand of 25", small.village(0, 4), 5);
    }

    private static void leastOfBoth() {
        edge.says(8, "The LEAST of a VILLAGE is the lesser STAND of both.");
        HeldTowns x = Due.read("0,0;w500,p112");
        edge.is("the east", x.village(0, 5), 1);
        x.put(0, 0, 4);
        edge.is("the west", x.village(0, 5), 1);
        x.put(0, 0, 2);
        edge.is("both", x.village(0, 5), 3);
        x.lift(0);
        edge.is("nothing", x.village(0, 5), 0);
        edge.is("300 both ways", x.village(1, 5), 60);
        edge.is("99 at most", Due.read("0,0;p100,p104").village(0, 5), 99);
    }

    private static void whatIsInVillages() {
        edge.says(8, "6 which WEIGHTS are there, as bits, 7 OUNCES of these together (rates)");
        HeldTowns x = Due.read("9,9,9,9;w900,w900,b900,b900,p900");
        edge.is("all", x.village(0, 6), 31);
        edge.is("ounces of all", x.village(0, 7), 45);
        edge.is("none", x.village(3, 6), 0);
        edge.is("ounces of none", x.village(3, 7), 0);
        x.put(4, 3, 4);
        edge.is("the last in the last", x.village(3, 6), 16);
        edge.is("a pebble has its ounces", x.village(3, 7), 9);
        x.lift(0);
        edge.is("not who is on the plain", x.village(0, 6), 14);
        edge.is("nor its ounces", x.village(0, 7), 27);
    }

    private static void villageRefuses() {
        edge.says(8, "UNKNOWN; OUTSIDE.");
        HeldTowns two = Due.read("1,2;w304");
        HeldTowns four = Due.read("1,2,3,4;w304");
        edge.range(two, "village of two", UNKNOWN, 0, 1, i -> two.village(i, 0));
        edge.range(four, "village of four", UNKNOWN, 0, 3, i -> four.village(i, 7));
        edge.range(two, "what", OUTSIDE, 0, 7, i -> two.village(1, i));
        edge.still(two, "unknown is told first", UNKNOWN, () -> two.village(2, 8));
        edge.still(two, "unknown is told first", UNKNOWN, () -> two.village(-1, -1));
    }

    private static void fiveTimesTheForce() {
        edge.says(9, "if the HOLD to that side is 5 times the FORCE, or more");
        HeldTowns x = Due.read("0,0;w500,p112");
        edge.is("25 by 5", x.lifts(0, 0, 5), 0);
        edge.is("25 by 6", x.lifts(0, 0, 6), 1);
        edge.is("5 by 1", x.lifts(0, 1, 1), 0);
        edge.is("5 by 2", x.lifts(0, 1, 2), 1);
        x.build(0, 1); // 28, 8
        edge.is("28 by 5", x.lifts(0, 0, 5), 0);
        edge.is("28 by 6", x.lifts(0, 0, 6), 1);
        x.build(0, 0);
        x.cut(0, 4); // 20, 4
        edge.is("4 by 1", x.lifts(0, 1, 1), 1);
        edge.is("4 by 0", x.lifts(0, 1, 0), 0);
        x.lift(0);
        edge.is("0 by 0", x.lifts(0, 0, 0), 0);
        edge.is("0 by 1", x.lifts(0, 0, 1), 1);
        HeldTowns great = Due.read("0,0;p101,b900,w100");
        edge.is("495 by 99", great.lifts(0, 0, 99), 0);
        great.put(2, 0, 1);
        edge.is("494 by 99", great.lifts(0, 0, 99), 1);
        edge.is("494 by 98", great.lifts(0, 0, 98), 0);
    }

    private static void liftsRefuses() {
        edge.says(9, "UNKNOWN: village; OUTSIDE: side (0, 1), force (0 to 99).");
        HeldTowns x = Due.read("1,2,3;w304");
        edge.range(x, "village", UNKNOWN, 0, 2, i -> x.lifts(i, 0, 0));
        edge.range(x, "side", OUTSIDE, 0, 1, i -> x.lifts(0, i, 0));
        edge.range(x, "force", OUTSIDE, 0, 99, i -> x.lifts(0, 1, i));
        edge.still(x, "unknown is told first", UNKNOWN, () -> x.lifts(3, 2, 100));
        edge.still(x, "unknown is told first", UNKNOWN, () -> x.lifts(-1, -1, -1));
        edge.still(x, "what would be is not", 1, () -> x.lifts(0, 0, 99));
    }
}
