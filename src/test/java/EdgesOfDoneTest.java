/** Promises 10 to 14 at their edges, sentence by sentence: what is done to WEIGHTS and VILLAGES. */
public final class EdgesOfDoneTest {
    private static final int NONE = Edge.NONE, UNKNOWN = Edge.UNKNOWN, OUTSIDE = Edge.OUTSIDE, STATE = Edge.STATE;
    private static final Edge edge = new Edge();

    public static void main(String[] args) {
        fallsInTheEast();
        fallsInTheWest();
        whoStandsDoesNotSlide();
        lookedAtFirst();
        chips();
        snowCounts();
        howManyLift();
        blowRefuses();
        blowIsFull();
        wasOnThePlain();
        putRefuses();
        putCountsNoSnow();
        liftRefuses();
        cutRefuses();
        buildRefuses();
        edge.end("EdgesOfDoneTest");
    }

    private static void fallsInTheEast() {
        edge.says(10, "who would be beyond PLACE 4, or below 0, FALLS");
        HeldTowns x = Due.read("0,0;w103,w111,s104");
        edge.is("both lift", x.blow(0, 99), 2);
        edge.is("from 3 to 4", x.weight(0, 3), 4);
        edge.is("it is there still", x.weight(0, 2), 0);
        edge.is("from 1 to 2", x.weight(1, 3), 2);
        edge.is("from 4", x.weight(2, 2), NONE);
        edge.is("it has no place", x.weight(2, 3), NONE);
        edge.is("one fell", x.count(7), 1);
        edge.is("both lift again", x.blow(0, 99), 2);
        edge.is("then from 4", x.weight(0, 2), NONE);
        edge.is("two fell", x.count(7), 2);
        edge.is("in no village", x.village(0, 6), 0);
        edge.is("they lift, with nothing to slide", x.blow(0, 99), 2);
        edge.is("who lies on the plain falls no more", x.count(7), 2);
    }

    private static void fallsInTheWest() {
        edge.says(10, "who would be beyond PLACE 4, or below 0, FALLS");
        HeldTowns x = Due.read("0,0;w101,w114,s100");
        x.blow(1, 99);
        edge.is("from 1 to 0", x.weight(0, 3), 0);
        edge.is("it is there still", x.weight(0, 2), 0);
        edge.is("from 4 to 3", x.weight(1, 3), 3);
        edge.is("from 0", x.weight(2, 2), NONE);
        edge.is("it has no place", x.weight(2, 3), NONE);
        edge.is("one fell", x.count(7), 1);
        x.blow(1, 99);
        edge.is("then from 0", x.weight(0, 2), NONE);
        edge.is("two fell", x.count(7), 2);
    }

    private static void whoStandsDoesNotSlide() {
        edge.says(10, "of each that LIFTS all WEIGHTS SLIDE by one PLACE away from that side");
        HeldTowns x = Due.read("0,0;w502,w412,w114");
        edge.is("12 + 1 lifts by 3, 15 does not", x.blow(0, 3), 1);
        edge.is("it stays", x.weight(0, 3), 2);
        edge.is("it slides", x.weight(1, 3), 3);
        edge.is("so does the other there", x.weight(2, 2), NONE);
        edge.is("15 stands from the east", x.blow(1, 3), 0);
        edge.is("they stay", x.weight(1, 3), 3);
        edge.is("a pebble slides, too", Due.read("0,0;p104").blow(0, 21), 2);
    }

    private static void lookedAtFirst() {
        edge.says(10, "When a WIND blows, all VILLAGES are looked at first");
        HeldTowns x = Due.read("0,0;c200,s110");
        edge.is("10 stands 2 ahead of its chip, 5 lifts ahead of its snow", x.blow(0, 2), 1);
        edge.is("one stays", x.weight(0, 3), 0);
        edge.is("it chips", x.weight(0, 1), 1);
        edge.is("one slides", x.weight(1, 3), 1);
        edge.is("it is counted then", x.weight(1, 5), 1);
        edge.is("5 and 2 times 4 lift by 2", x.blow(0, 2), 2);
    }

    private static void chips() {
        edge.says(10, "CHIPPED ones in VILLAGES have 1 OUNCE less, if they have more than 1");
        HeldTowns x = Due.read("9,0;c202,c514,c302,w202");
        x.lift(2);
        edge.is("one lifts", x.blow(0, 2), 1);
        edge.is("2", x.weight(0, 1), 1);
        edge.is("who falls by this wind has no less", x.weight(1, 1), 5);
        edge.is("nor who was on the plain", x.weight(2, 1), 3);
        edge.is("nor who is not chipped", x.weight(3, 1), 2);
        x.blow(0, 0);
        edge.is("1", x.weight(0, 1), 1);
        x.cut(0, 9);
        x.blow(1, 0);
        edge.is("9", x.weight(0, 1), 8);
        x.put(1, 0, 0);
        x.blow(1, 0);
        edge.is("who was put back chips", x.weight(1, 1), 4);
    }

    private static void snowCounts() {
        edge.says(10, "of SNOW in VILLAGES that WIND is counted (3 at most)");
        HeldTowns x = Due.read("9,0;s902,s114,s102");
        x.lift(2);
        int[] counted = {1, 2, 3, 3, 3};
        for (int i = 0; i < counted.length; i++) {
            x.blow(0, 0);
            edge.is("wind " + (i + 1), x.weight(0, 5), counted[i]);
            edge.is("on the plain", x.weight(2, 5), 0);
        }
        edge.is("it bears no more", x.weight(0, 4), 12);
        edge.says(10, "if it FALLS, nothing is counted of SNOW any more");
        edge.is("counted ahead", x.weight(1, 5), 3);
        edge.is("one lifts", x.blow(0, 1), 1);
        edge.is("it fell", x.weight(1, 2), NONE);
        edge.is("nothing", x.weight(1, 5), 0);
        x.blow(0, 0);
        edge.is("nothing then", x.weight(1, 5), 0);
        x.put(1, 0, 2);
        x.blow(0, 0);
        edge.is("put back it is counted from 1", x.weight(1, 5), 1);
    }

    private static void howManyLift() {
        edge.says(10, "A WIND blows: how many VILLAGES LIFT.");
        HeldTowns x = Due.read("0,2,4,9;w102");
        x.lift(0); // 0, 6, 12, 27
        edge.are("force", force -> x.blow(0, force), 0, 0, 1, 2, 3, 3, 3, 4);
        edge.is("all lifted together", x.count(6), 16);
        edge.is("winds", x.count(5), 7);
        edge.is("99", x.blow(1, 99), 4);
    }

    private static void blowRefuses() {
        edge.says(10, "OUTSIDE: side, force; STATE: no TABLE");
        HeldTowns x = Due.read("1,2;s302,c312");
        edge.range(x, "side", OUTSIDE, 0, 1, i -> x.blow(i, 0));
        edge.range(x, "force", OUTSIDE, 0, 99, i -> x.blow(0, i));
        edge.is("four blew", x.count(5), 4);
        HeldTowns none = new HeldTowns();
        edge.still(none, "no table", STATE, () -> none.blow(0, 0));
        edge.still(none, "no table", STATE, () -> none.blow(1, 99));
        edge.still(none, "a side, told first", OUTSIDE, () -> none.blow(2, 0));
        edge.still(none, "a force, told first", OUTSIDE, () -> none.blow(0, 100));
    }

    // The document leaves answers beyond 512 calls free, and FULL can't be reached by fewer.
    private static void blowIsFull() {
        edge.says(10, "FULL: 999 blew.");
        HeldTowns x = Due.read("1,0;s302,c912");
        for (int i = 0; i < 998; i++) {
            x.blow(0, 0);
        }
        edge.is("the last", x.blow(0, 1), 1); // CHIPPED 1 holds 3
        edge.is("winds", x.count(5), 999);
        edge.still(x, "one more", Edge.FULL, () -> x.blow(0, 99));
        edge.still(x, "a side, told first", OUTSIDE, () -> x.blow(-1, 0));
        edge.still(x, "a force, told first", OUTSIDE, () -> x.blow(0, -1));
    }

    private static void wasOnThePlain() {
        edge.says(11, "in which VILLAGE it was (NONE: on the PLAIN)");
        HeldTowns x = Due.read("0,0,0,0;w104");
        edge.is("in 0", x.put(0, 3, 4), 0);
        edge.is("in 3", x.put(0, 3, 0), 3);
        x.lift(0);
        edge.is("lifted", x.put(0, 0, 4), NONE);
        x.blow(0, 9);
        edge.is("fell", x.put(0, 1, 0), NONE);
        edge.is("in 1", x.put(0, 0, 0), 1);
        edge.is("that it fell is not undone", x.count(7), 1);
        edge.is("none is on the plain", x.count(2), 0);
    }

    private static void putRefuses() {
        edge.says(11, "UNKNOWN: weight, village; OUTSIDE: place (0 to 4).");
        HeldTowns x = Due.read("1,2,3;s304,w312");
        edge.range(x, "weight", UNKNOWN, 0, 1, i -> x.put(i, 0, 0));
        edge.range(x, "village", UNKNOWN, 0, 2, i -> x.put(0, i, 0));
        edge.range(x, "place", OUTSIDE, 0, 4, i -> x.put(0, 1, i));
        edge.is("the last that was taken", x.weight(0, 3), 4);
        x.blow(0, 0);
        edge.still(x, "a weight, told first", UNKNOWN, () -> x.put(2, 0, 5));
        edge.still(x, "a village, told first", UNKNOWN, () -> x.put(0, 3, 5));
        edge.still(x, "a village, told first", UNKNOWN, () -> x.put(0, -1, -1));
        edge.still(x, "its snow stays if refused", OUTSIDE, () -> x.put(0, 1, 5));
        edge.is("counted", x.weight(0, 5), 1);
    }

    private static void putCountsNoSnow() {
        edge.says(11, "by both, and if it FALLS, nothing is counted of SNOW any more");
        HeldTowns x = Due.read("9,9;s302,s312");
        x.blow(0, 0);
        x.put(0, 0, 2);
        edge.is("put where it was", x.weight(0, 5), 0);
        edge.is("the other keeps it", x.weight(1, 5), 1);
        x.blow(0, 0);
        edge.is("counted from 1", x.weight(0, 5), 1);
        x.put(0, 1, 2);
        edge.is("put elsewhere", x.weight(0, 5), 0);
        x.lift(1);
        edge.is("lifted", x.weight(1, 5), 0);
        x.put(1, 1, 2);
        edge.is("put back", x.weight(1, 5), 0);
    }

    private static void liftRefuses() {
        edge.says(12, "UNKNOWN; STATE: it is on the PLAIN.");
        HeldTowns x = Due.read("0,0,0,0;w134,w104");
        edge.is("it was in 3", x.lift(0), 3);
        edge.still(x, "it was lifted", STATE, () -> x.lift(0));
        edge.is("none fell", x.count(7), 0);
        x.blow(0, 9);
        edge.still(x, "it fell", STATE, () -> x.lift(1));
        x.put(1, 0, 0);
        edge.is("it was put back in 0", x.lift(1), 0);
        HeldTowns five = Due.read("0,0;w100,w100,w100,w100,w100");
        edge.range(five, "weight", UNKNOWN, 0, 4, five::lift);
        HeldTowns one = Due.read("0,0;w100");
        edge.still(one, "weight 1 of one", UNKNOWN, () -> one.lift(1));
        edge.is("weight 0 of one", one.lift(0), 0);
    }

    private static void cutRefuses() {
        edge.says(13, "UNKNOWN; OUTSIDE: ounces (1 to 9).");
        HeldTowns x = Due.read("1,2;s304,c312");
        edge.is("it had 3", x.cut(0, 1), 3);
        edge.is("it had 1", x.cut(0, 9), 1);
        edge.is("it had 9", x.cut(0, 9), 9);
        edge.range(x, "ounces", OUTSIDE, 1, 9, i -> x.cut(0, i));
        edge.range(x, "weight", UNKNOWN, 0, 1, i -> x.cut(i, 5));
        edge.still(x, "unknown is told first", UNKNOWN, () -> x.cut(2, 0));
        edge.still(x, "unknown is told first", UNKNOWN, () -> x.cut(-1, 10));
        x.blow(0, 0);
        x.cut(0, 2);
        edge.is("its snow stays", x.weight(0, 5), 1);
        x.lift(0);
        edge.is("on the plain, too", x.cut(0, 7), 2);
        edge.is("it is there still", x.weight(0, 2), NONE);
    }

    private static void buildRefuses() {
        edge.says(14, "UNKNOWN; OUTSIDE: base (0 to 9).");
        HeldTowns x = Due.read("1,2,3;w304");
        edge.is("it did 3", x.build(2, 9), 3);
        edge.is("it did 9", x.build(2, 0), 9);
        edge.is("it did 0", x.build(2, 0), 0);
        edge.is("nothing holds it", x.village(2, 1), 0);
        edge.range(x, "base", OUTSIDE, 0, 9, i -> x.build(0, i));
        edge.is("the last that was taken", x.village(0, 0), 9);
        edge.range(x, "village", UNKNOWN, 0, 2, i -> x.build(i, 5));
        edge.still(x, "unknown is told first", UNKNOWN, () -> x.build(3, 10));
        edge.still(x, "unknown is told first", UNKNOWN, () -> x.build(-1, -1));
        HeldTowns four = Due.read("1,2,3,4;w304");
        edge.range(four, "village of four", UNKNOWN, 0, 3, i -> four.build(i, 0));
    }
}
