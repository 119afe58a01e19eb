/** Promises 15 to 18 at their edges, sentence by sentence: WHERE, PACK, MEND, ODDS. */
public final class EdgesOfWouldTest {
    private static final int NONE = Edge.NONE, UNKNOWN = Edge.UNKNOWN, OUTSIDE = Edge.OUTSIDE, STATE = Edge.STATE;
    private static final Edge edge = new Edge();

    public static void main(String[] args) {
        whereIsGreatest();
        whereOfLikeOnes();
        whereCountsNoSnow();
        whereRefuses();
        packStands();
        packMostWithFewest();
        packHasNone();
        packOfLikeOnes();
        packCountsNoSnow();
        packIsOutside();
        packTwentyTimes();
        mendBelowNine();
        mendOfLikeOnes();
        mendNone();
        mendRefuses();
        oddsAtTheirEnds();
        oddsInLowestTerms();
        oddsRefuses();
        edge.end("EdgesOfWouldTest");
    }

    private static void whereIs(HeldTowns x, int weight, int village, int place, int least) {
        String call = "where(" + weight + ", " + village + ", ";
        edge.still(x, call + "0)", place, () -> x.where(weight, village, 0));
        edge.still(x, call + "1)", least, () -> x.where(weight, village, 1));
    }

    private static void whereIsGreatest() {
        edge.says(15, "so that the LEAST of that VILLAGE is greatest");
        HeldTowns x = Due.read("0,0;w502,b910,w104");
        // BRASS holds 90 and 18: the WEIGHT of 5 best farthest east, 95 and 43
        whereIs(x, 0, 1, 4, 8);
        x.put(1, 1, 4);
        whereIs(x, 0, 1, 0, 8);
        x.lift(2);
        whereIs(x, 0, 0, 2, 3); // 15 and 15: where it is counts once
        x.lift(0);
        whereIs(x, 0, 0, 2, 3); // from the PLAIN
        whereIs(Due.read("0,0,0,9;w100,w100,w100,w100,w502"), 4, 3, 2, 8); // 27 + 15
        edge.says(15, "(99 at most)");
        whereIs(Due.read("0,0;p100,p104,w902"), 2, 0, 0, 99);
    }

    private static void whereOfLikeOnes() {
        edge.says(15, "of like ones the least");
        HeldTowns x = Due.read("0,0,0;w102,b910,b924");
        whereIs(x, 0, 0, 0, 0); // LEAST 0 at every PLACE
        // 90 and 18 by the BRASS: 19 at 0, then 20 to 23 to the east
        whereIs(x, 0, 1, 1, 4);
        // 18 and 90: 23 to 20 to the west at 0 to 3
        whereIs(x, 0, 2, 0, 4);
    }

    private static void whereCountsNoSnow() {
        edge.says(15, "(from where it is; nothing is counted of SNOW then)");
        HeldTowns x = Due.read("0,0;s402,w112");
        for (int i = 0; i < 3; i++) {
            x.blow(0, 0);
        }
        whereIs(x, 0, 0, 2, 2); // 12, not 21
        edge.is("of another it is counted", x.where(1, 0, 1), 4); // 21 and 26 - 5, 22 at 0
        edge.is("it stays counted", x.weight(0, 5), 3);
    }

    private static void whereRefuses() {
        edge.says(15, "UNKNOWN: weight, village; OUTSIDE.");
        HeldTowns x = Due.read("1,2,3;s304,w312");
        edge.range(x, "weight", UNKNOWN, 0, 1, i -> x.where(i, 0, 0));
        edge.range(x, "village", UNKNOWN, 0, 2, i -> x.where(0, i, 0));
        edge.range(x, "what", OUTSIDE, 0, 1, i -> x.where(1, 2, i));
        edge.still(x, "a weight, told first", UNKNOWN, () -> x.where(2, 0, 2));
        edge.still(x, "a village, told first", UNKNOWN, () -> x.where(0, 3, 2));
        edge.still(x, "a village, told first", UNKNOWN, () -> x.where(0, -1, -1));
    }

    private static void packIs(String table, int force, int... told) {
        packIs(Due.read(table), force, told);
    }

    private static void packIs(HeldTowns x, int force, int... told) {
        int[] whats = {0, 1, 10, 11, 12, 13};
        for (int i = 0; i < whats.length; i++) {
            edge.is("pack(" + force + ", " + whats[i] + ")", x.pack(force, whats[i]), told[i]);
        }
    }

    private static void packStands() {
        edge.says(16, "have a LEAST of that FORCE, or more");
        packIs("5,0;w504", 3, 2, 5, 0, 1, 0, 0); // 15 by the BASE, 15 by the WEIGHT at 2
        packIs("5,0;w504", 4, 1, 5, 1, 0, 0, 0); // 20 by both together
        packIs("5,0;w504", 6, 1, 5, 1, 0, 0, 0); // 30 by both together
        packIs("5,0;w504", 7, 0, 0, 0, 0, 0, 0);
        packIs("0,0;w100,w104", 1, 1, 2, 0, 3, 0, 0); // 6 by both
        packIs("0,0;w100", 1, 0, 0, 0, 0, 0, 0); // 3
        packIs("9,9;w100", 5, 2, 0, 0, 0, 0, 0); // 27 each, and nothing is needed
        packIs("0,0;p104,b900", 20, 1, 1, 0, 1, 0, 0);
    }

    private static void packMostWithFewest() {
        edge.says(16, "so that most VILLAGES have a LEAST of that FORCE, or more; of these with fewest OUNCES");
        packIs("0,0;w902,w902", 5, 2, 18, 1, 2, 0, 0); // two by 18 OUNCES rather than one by 9
        packIs("0,0;w902,w902", 6, 1, 18, 0, 3, 0, 0);
        packIs("0,9;w902,b502", 5, 2, 5, 2, 0, 0, 0); // BRASS of 5 rather than a WEIGHT of 9
        packIs("0,9;w902,b502,w402,w402", 5, 2, 5, 2, 0, 0, 0);
        packIs("0,9;w902,b902,w402,w402", 4, 2, 8, 12, 0, 0, 0); // two of 4 rather than one of 9
    }

    private static void packHasNone() {
        edge.says(16, "(0: none, or there is none such)");
        HeldTowns two = Due.read("0,0;w902,w902");
        edge.is("village 2 of two", two.pack(5, 12), 0);
        edge.is("village 3 of two", two.pack(5, 13), 0);
        HeldTowns three = Due.read("0,0,0;w902,w902,w902");
        edge.is("village 2 of three", three.pack(5, 12), 4);
        edge.is("village 3 of three", three.pack(5, 13), 0);
        HeldTowns four = Due.read("0,0,0,0;w902,w902,w902,w902");
        edge.is("village 3 of four", four.pack(5, 13), 8);
        Due.write(four, "0,0;w902,w902");
        four.table();
        edge.is("village 3, where there was one", four.pack(5, 13), 0);
        edge.is("a weight, where there was one", four.pack(6, 11), 3); // 54 by both
        edge.is("the other two hold nothing", four.pack(20, 0), 0);
        HeldTowns last = Due.read("0,0,0,9;w902");
        edge.is("village 3 alone of four", last.pack(10, 13), 1); // 27 + 27
        Due.write(last, "0,0;w902");
        last.table();
        edge.is("village 3, where it alone had one", last.pack(5, 13), 0);
    }

    private static void packOfLikeOnes() {
        edge.says(16, "of like ones the first by numbers (VILLAGE 0 first)");
        packIs("0,0;w502", 3, 1, 5, 0, 1, 0, 0);
        packIs("0,0;w502,w502", 3, 2, 10, 1, 2, 0, 0);
        packIs("0,0;w502,w502,w502", 6, 1, 10, 0, 3, 0, 0);
        packIs("0,0,0,0;w502", 3, 1, 5, 0, 0, 0, 1);
        packIs("0,0,0,0;w502,w502,w502,w502,w502", 3, 4, 20, 1, 2, 4, 8);
        packIs("0,0,0,0;w502,w502,w502,w502,w502", 6, 2, 20, 0, 0, 3, 12);
        packIs("0,0,0,0;w502,w502,w502,w502,w502", 15, 1, 25, 0, 0, 0, 31);
    }

    private static void packCountsNoSnow() {
        edge.says(16, "from wherever they are, at PLACES as one likes (nothing is counted of SNOW then)");
        HeldTowns x = Due.read("0,0;s504");
        for (int i = 0; i < 3; i++) {
            x.blow(0, 0);
        }
        edge.is("15 by 5 at 2", x.pack(3, 0), 1);
        edge.is("24 by 8 is not", x.pack(4, 0), 0);
        x.cut(0, 4);
        edge.is("12 by 4", x.pack(2, 0), 1);
        edge.is("15 by 5 is not, with 1 counted", x.pack(3, 0), 0);
        x.cut(0, 5);
        edge.is("it stays counted", x.weight(0, 5), 3);
        edge.is("it stays where it is", x.weight(0, 3), 4);
        x.lift(0);
        edge.is("from the plain", x.pack(3, 0), 1);
        edge.is("it stays there", x.weight(0, 2), NONE);
    }

    private static void packIsOutside() {
        edge.says(16, "OUTSIDE: force (1 to 20), what");
        HeldTowns x = Due.read("9,0;w504");
        edge.range(x, "force", OUTSIDE, 1, 20, i -> x.pack(i, 0));
        edge.range(x, "what", OUTSIDE, 0, 1, i -> x.pack(1, i));
        edge.range(x, "what", OUTSIDE, 10, 13, i -> x.pack(1, i));
        edge.is("refused ones were not done", x.count(11), 6);
    }

    private static void packTwentyTimes() {
        edge.says(16, "STATE: no TABLE, or pack() was done 20 times.");
        HeldTowns none = new HeldTowns();
        edge.still(none, "no table", STATE, () -> none.pack(1, 0));
        edge.still(none, "a force, told first", OUTSIDE, () -> none.pack(0, 0));
        edge.still(none, "a what, told first", OUTSIDE, () -> none.pack(1, 2));
        HeldTowns x = Due.read("9,0;w504");
        for (int i = 1; i <= 20; i++) {
            edge.is("time " + i, x.pack(1, 0), 2);
            edge.is("done", x.count(11), i);
        }
        edge.still(x, "time 21", STATE, () -> x.pack(1, 0));
        edge.still(x, "time 21 of another force", STATE, () -> x.pack(20, 13));
        edge.still(x, "a force, told first", OUTSIDE, () -> x.pack(21, 0));
        edge.still(x, "a what, told first", OUTSIDE, () -> x.pack(1, 14));
        x.image();
        x.restore();
        Due.write(x, "9,0;w504");
        x.table();
        edge.still(x, "by an image and another table, too", STATE, () -> x.pack(1, 0));
    }

    private static void mendBelowNine() {
        edge.says(17, "to which WEIGHT in a VILLAGE (of less than 9 OUNCES)");
        HeldTowns x = Due.read("0,9;w802,w112"); // 24 and 24; 30 and 30
        edge.still(x, "of 8", 0, () -> x.mend());
        x.cut(0, 9); // 27; by a tenth OUNCE it would be 30
        edge.still(x, "of 9", NONE, () -> x.mend());
        HeldTowns chipped = Due.read("0,9;c902,w112");
        edge.is("of 9", chipped.mend(), NONE);
        chipped.blow(0, 0);
        edge.is("then it has 8", chipped.mend(), 0);
        chipped.lift(0);
        edge.is("on the plain", chipped.mend(), NONE);
        HeldTowns last = Due.read("0,0;p112,p112,p112,p112,w402"); // 12, by 5 OUNCES 15
        edge.is("the last of five", last.mend(), 4);
    }

    private static void mendOfLikeOnes() {
        edge.says(17, "so that the least LEAST of all VILLAGES is greatest: of like ones the least");
        HeldTowns x = Due.read("0,0;w202,w202,p112"); // 12: 15 by either
        edge.is("of two", x.mend(), 0);
        x.cut(0, 9);
        x.cut(1, 4); // 27 + 12, by 5 OUNCES 42
        edge.is("the other, if one has 9", x.mend(), 1);
        // 6 + 18: by the WEIGHT 27 (5), by the BRASS 30 (6)
        edge.is("the greatest", Due.read("0,0;w202,b302,p112").mend(), 1);
        // 6 + 12: by the WEIGHT 21 (4), by the BRASS 24 (4)
        edge.is("like ones of two kinds", Due.read("0,0;w202,b202,p112").mend(), 0);
        edge.is("the other way round", Due.read("0,0;b202,w202,p112").mend(), 0);
    }

    private static void mendNone() {
        edge.says(17, "none, if by none it is greater than now");
        edge.is("6, by either 9", Due.read("0,0;w102,w102,p112").mend(), NONE);
        edge.is("9, by it 12", Due.read("0,0;w302,p112").mend(), 0);
        edge.is("two villages alike", Due.read("0,0;w402,w412").mend(), NONE);
        edge.is("the least one has no weight", Due.read("0,0;w402").mend(), NONE);
        edge.is("a pebble bears no more", Due.read("0,0;p102,p112").mend(), NONE);
        edge.is("99 at most", Due.read("0,0;p100,p104,p110,p114,w102").mend(), NONE);
        // 25 and 5: by a 6th OUNCE 30 and 6
        edge.is("a greater stand to the west does not matter", Due.read("0,0;w500,p112").mend(), NONE);
        edge.is("a greater stand to the east does not matter", Due.read("0,0;w504,p112").mend(), NONE);
        HeldTowns plain = Due.read("0,0;w402,p112");
        plain.lift(0);
        edge.is("who is on the plain is not mended", plain.mend(), NONE);
    }

    private static void mendRefuses() {
        edge.says(17, "STATE: no TABLE.");
        HeldTowns none = new HeldTowns();
        edge.still(none, "none", STATE, () -> none.mend());
        Due.write(none, "0,0;w402,p112");
        edge.still(none, "on the page it is none yet", STATE, () -> none.mend());
        none.table();
        edge.still(none, "then it is", 0, () -> none.mend());
    }

    private static void oddsAre(HeldTowns x, int hours, int above, int below) {
        edge.still(x, "odds(" + hours + ", 0)", above, () -> x.odds(hours, 0));
        edge.still(x, "odds(" + hours + ", 1)", below, () -> x.odds(hours, 1));
    }

    private static void oddsAtTheirEnds() {
        edge.says(18, "with a FORCE of 0 to 9, each as likely");
        HeldTowns x = Due.read("9,9;w602,w612"); // 45 each: all 20
        oddsAre(x, 1, 1, 1);
        oddsAre(x, 4, 1, 1);
        x.put(0, 0, 1); // 51, 39: 10 and 8
        oddsAre(x, 1, 9, 10);
        oddsAre(x, 4, 6561, 10000);
        x.put(0, 0, 2);
        x.cut(1, 5); // 42: 9 and 9
        oddsAre(x, 1, 9, 10);
        HeldTowns great = Due.read("0,0;p102,p112"); // 300: more than 9 is no better
        oddsAre(great, 1, 1, 1);
        great.lift(0); // FORCE 0 alone, from either side
        oddsAre(great, 1, 1, 10);
        oddsAre(great, 4, 1, 10000);
        edge.says(18, "(all OUNCES, SNOW as they are now)");
        HeldTowns now = Due.read("9,9;c602,s612");
        oddsAre(now, 4, 1, 1);
        now.blow(0, 0); // CHIPPED 5: 42
        oddsAre(now, 2, 81, 100);
    }

    // What lifts() tells of each WIND, and what divides both.
    private static void oddsInLowestTerms() {
        edge.says(18, "in lowest terms");
        for (int ounces = 1; ounces <= 9; ounces++) {
            for (int place = 0; place <= 2; place++) {
                oddsAsLifts(Due.read("0,9;b" + ounces + "0" + place + ",p112"));
                oddsAsLifts(Due.read(ounces + ",9;w" + ounces + "0" + (4 - place) + ",p112"));
            }
        }
    }

    private static void oddsAsLifts(HeldTowns x) {
        long good = 0;
        for (int wind = 0; wind < 20; wind++) {
            good += x.lifts(0, wind / 10, wind % 10) + x.lifts(1, wind / 10, wind % 10) == 0 ? 1 : 0;
        }
        long above = 1;
        long below = 1;
        for (int hours = 1; hours <= 4; hours++) {
            above *= good;
            below *= 20;
            long common = divisorOfBoth(above, below);
            edge.is(good + " of 20, " + hours + " hours, above", x.odds(hours, 0), above / common);
            edge.is(good + " of 20, " + hours + " hours, below", x.odds(hours, 1), below / common);
        }
    }

    private static long divisorOfBoth(long a, long b) {
        return b == 0 ? a : divisorOfBoth(b, a % b);
    }

    private static void oddsRefuses() {
        edge.says(18, "OUTSIDE: hours (1 to 4), what; STATE: no TABLE.");
        HeldTowns x = Due.read("1,2,3;s304,w312");
        edge.range(x, "hours", OUTSIDE, 1, 4, i -> x.odds(i, 0));
        edge.range(x, "what", OUTSIDE, 0, 1, i -> x.odds(1, i));
        HeldTowns none = new HeldTowns();
        edge.still(none, "no table", STATE, () -> none.odds(1, 0));
        edge.still(none, "no table", STATE, () -> none.odds(4, 1));
        edge.still(none, "hours, told first", OUTSIDE, () -> none.odds(0, 0));
        edge.still(none, "a what, told first", OUTSIDE, () -> none.odds(1, 2));
    }
}
