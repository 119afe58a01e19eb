/** For each promise of the document what it asks, worked by hand: ordinary inputs, edges, refusals. */
public final class PromiseTest {
    private static final int NONE = -1, UNKNOWN = -101, OUTSIDE = -102, STATE = -103, FULL = -104;
    private static final int LOW = Integer.MIN_VALUE, HIGH = Integer.MAX_VALUE;
    private static final Due due = new Due();

    public static void main(String[] args) {
        newObject();
        letter();
        blank();
        fault();
        table();
        weight();
        possibleOunces();
        windToWaitFor();
        as();
        village();
        lifts();
        blow();
        blowIsFull();
        slidesAndFalls();
        weathering();
        put();
        lift();
        cut();
        build();
        where();
        pack();
        packCounts();
        mend();
        odds();
        see();
        forget();
        decades();
        image();
        restore();
        count();
        digest();
        refusalsChangeNothing();
        due.end("PromiseTest");
    }

    // 1
    private static void newObject() {
        HeldTowns x = new HeldTowns();
        for (int what = 0; what <= 11; what++) {
            due.is("1 count(" + what + ")", x.count(what), 0);
        }
        due.is("1 fault", x.fault(), 0);
        due.is("1 blank", x.blank(), 0);
        due.is("1 forget", x.forget(), 0);
        due.is("1 table", x.table(), STATE);
        due.is("1 weight", x.weight(0, 0), UNKNOWN);
        due.is("1 village", x.village(0, 0), UNKNOWN);
        due.is("1 as", x.as(0, 0), UNKNOWN);
        due.is("1 lifts", x.lifts(0, 0, 0), UNKNOWN);
        due.is("1 blow", x.blow(0, 0), STATE);
        due.is("1 put", x.put(0, 0, 0), UNKNOWN);
        due.is("1 lift", x.lift(0), UNKNOWN);
        due.is("1 cut", x.cut(0, 1), UNKNOWN);
        due.is("1 build", x.build(0, 1), UNKNOWN);
        due.is("1 where", x.where(0, 0, 0), UNKNOWN);
        due.is("1 pack", x.pack(1, 0), STATE);
        due.is("1 mend", x.mend(), STATE);
        due.is("1 odds", x.odds(1, 0), STATE);
        due.is("1 see", x.see(0, 0, 0, true), UNKNOWN);
        due.is("1 decades", x.decades(1, 0, 0), STATE);
        due.is("1 image", x.image(), STATE);
        due.is("1 restore", x.restore(), STATE);
        HeldTowns y = new HeldTowns();
        Due.write(y, "1,2;w101");
        y.table();
        due.is("1 objects are apart", x.count(10), 0);
    }

    // 2
    private static void letter() {
        HeldTowns x = new HeldTowns();
        due.is("2 below", x.letter(31), OUTSIDE);
        due.is("2 above", x.letter(127), OUTSIDE);
        due.is("2 negative", x.letter(LOW), OUTSIDE);
        due.is("2 great", x.letter(HIGH), OUTSIDE);
        due.is("2 least", x.letter(32), 1);
        due.is("2 greatest", x.letter(126), 2);
        for (int i = 3; i <= 36; i++) {
            due.is("2 letter " + i, x.letter('a'), i);
        }
        due.is("2 the 37th", x.letter('a'), FULL);
        due.is("2 outside first", x.letter(31), OUTSIDE);
        due.is("2 length", x.count(9), 36);
    }

    // 3
    private static void blank() {
        HeldTowns x = Due.written("1,2;w101");
        due.is("3 had", x.blank(), 8);
        due.is("3 empty", x.blank(), 0);
        due.is("3 count", x.count(9), 0);
        due.is("3 table", x.table(), STATE);
        due.is("3 begins anew", x.letter('1'), 1);
    }

    // 4
    private static void fault() {
        String[] sound = {"", "0", "9", "5,", "5,5;", "1,2,3,4;", "1,2;w101", "1,2;p914,", "1,2,3;s924",
            "1,2,3,4;w134,b234,c334,s434,p534"};
        for (String text : sound) {
            due.is("4 " + text, Due.written(text).fault(), text.length());
        }
        faultIn("x", 0);
        faultIn(",", 0);
        faultIn(" 1", 0);
        faultIn("55", 1);
        faultIn("5;", 1);
        faultIn("5,,", 2);
        faultIn("5,5 ", 3);
        faultIn("1,2,3,4,", 7);
        faultIn("1,2,3,4,5", 7);
        faultIn("1,2;;", 4);
        faultIn("1,2;x", 4);
        faultIn("1,2;W", 4);
        faultIn("1,2;1", 4);
        faultIn("1,2;w0", 5);
        faultIn("1,2;w:", 5);
        faultIn("1,2;w12", 6);
        faultIn("1,2,3;w13", 8);
        faultIn("1,2,3,4;w14", 10);
        faultIn("1,2;w1/", 6);
        faultIn("1,2;w115", 7);
        faultIn("1,2;w11/", 7);
        faultIn("1,2;w1111", 8);
        faultIn("1,2;w111;", 8);
        faultIn("1,2;w111,,", 9);
        faultIn("1,2;w111,x111,9", 9);
        faultIn("1,2,3,4;w134,b234,c334,s434,p534,", 32);
        faultIn("1,2,3,4;w134,b234,c334,s434,p534,w1", 32);
    }

    private static void faultIn(String text, int place) {
        HeldTowns x = Due.written(text);
        due.is("4 " + text, x.fault(), place);
        due.is("4 twice " + text, x.fault(), place);
        due.is("5 no table " + text, x.table(), STATE);
        due.is("5 the page stays " + text, x.count(9), text.length());
    }

    // 5
    private static void table() {
        String[] unfinished = {"", "1", "1,", "1,2", "1,2;", "1,2;w", "1,2;w1", "1,2;w10", "1,2;w101,", "1,2;w101,b"};
        for (String text : unfinished) {
            HeldTowns x = Due.written(text);
            due.is("5 unfinished " + text, x.table(), STATE);
            due.is("5 unfinished stays " + text, x.blank(), text.length());
        }
        due.is("5 two", Due.written("1,2;w101").table(), 2);
        due.is("5 three", Due.written("1,2,3;w101").table(), 3);
        HeldTowns x = Due.written("1,2,3,4;w134,b200,c312,s423,p531");
        due.is("5 four", x.table(), 4);
        due.is("5 the page is empty", x.count(9), 0);
        int[] homes = {3, 0, 1, 2, 3};
        int[] places = {4, 0, 2, 3, 1};
        for (int i = 0; i < 5; i++) {
            due.is("5 kind", x.weight(i, 0), i);
            due.is("5 ounces", x.weight(i, 1), i + 1);
            due.is("5 village", x.weight(i, 2), homes[i]);
            due.is("5 place", x.weight(i, 3), places[i]);
        }
        for (int i = 0; i < 4; i++) {
            due.is("5 base", x.village(i, 0), i + 1);
        }
        anotherTable();
    }

    private static void anotherTable() {
        HeldTowns x = Due.read("0,0;s502,w304,w904,c704,b904");
        x.image();
        x.see(1, 0, 9, false);
        x.blow(1, 0);
        x.blow(0, 20);
        due.is("5 fell ahead", x.count(7), 4);
        due.is("5 snow ahead", x.weight(0, 5), 2);
        Due.write(x, "0,0;s504,w30");
        due.is("5 refused", x.table(), STATE);
        due.is("5 all is still there", x.count(5), 2);
        due.is("5 and what was seen", x.count(8), 1);
        x.letter('4');
        due.is("5 another", x.table(), 2);
        int[] counts = {2, 2, 0, 8, 0, 0, 0, 0, 0, 0, 2, 0};
        for (int what = 0; what < counts.length; what++) {
            due.is("5 gone: count(" + what + ")", x.count(what), counts[what]);
        }
        due.is("5 no snow is counted", x.weight(0, 5), 0);
        due.is("5 nothing is seen", x.weight(1, 6), 511);
        due.is("5 its image is gone", x.restore(), STATE);
        Due.write(x, "9,8,7;p124");
        due.is("5 a third", x.table(), 3);
        due.is("5 fewer weights", x.weight(1, 0), UNKNOWN);
        due.is("5 more villages", x.village(2, 0), 7);
        due.is("5 ounces of these alone", x.count(3), 1);
        due.is("5 bits of these alone", x.village(0, 6), 0);
        due.is("5 pack of these alone", x.pack(6, 0), 1);
    }

    // 6
    private static void weight() {
        HeldTowns x = Due.read("1,2;w300,b411,c512,s613,p704");
        int[] bears = {3, 8, 5, 6, 100};
        for (int i = 0; i < 5; i++) {
            due.is("6 kind", x.weight(i, 0), i);
            due.is("6 ounces", x.weight(i, 1), 3 + i);
            due.is("6 village", x.weight(i, 2), i == 0 || i == 4 ? 0 : 1);
            due.is("6 place", x.weight(i, 3), i);
            due.is("6 bears", x.weight(i, 4), bears[i]);
            due.is("6 snow", x.weight(i, 5), 0);
            due.is("6 can have", x.weight(i, 6), 511);
        }
        x.blow(0, 0);
        x.blow(1, 0);
        int[] after = {3, 8, 3, 8, 100};
        for (int i = 0; i < 5; i++) {
            due.is("6 bears then", x.weight(i, 4), after[i]);
            due.is("6 snow then", x.weight(i, 5), i == 3 ? 2 : 0);
        }
        x.lift(1);
        due.is("6 on the plain, village", x.weight(1, 2), NONE);
        due.is("6 on the plain, place", x.weight(1, 3), NONE);
        due.is("6 on the plain, bears", x.weight(1, 4), 8);
        due.is("6 weight 5", x.weight(5, 0), UNKNOWN);
        due.is("6 weight -1", x.weight(-1, 0), UNKNOWN);
        due.is("6 low", x.weight(LOW, 0), UNKNOWN);
        due.is("6 what 8", x.weight(0, 8), OUTSIDE);
        due.is("6 what -1", x.weight(0, -1), OUTSIDE);
        due.is("6 unknown first", x.weight(HIGH, 8), UNKNOWN);
    }

    // 6, 19: all as it is when that is asked
    private static void possibleOunces() {
        // BASE 1 holds 3, and the WEIGHT at PLACE 0 five times its OUNCES to the west.
        HeldTowns x = Due.read("1,0;w500,b212");
        x.see(0, 0, 4, false); // 3 + 5 o >= 20: o >= 4
        due.is("6 stands", x.weight(0, 6), 511 - 7);
        x.see(0, 0, 7, true); // 3 + 5 o < 35: o <= 6
        due.is("6 lifts", x.weight(0, 6), 8 + 16 + 32);
        x.see(0, 1, 1, true); // 3 + o < 5: o <= 1
        due.is("6 none left", x.weight(0, 6), 0);
        due.is("6 of another nothing is seen", x.weight(1, 6), 511);
        x.put(0, 0, 2); // 3 + 3 o: >= 20, < 35, and < 5 to the east
        due.is("6 none left there either", x.weight(0, 6), 0);
        x.forget();
        x.see(0, 0, 4, false); // now o >= 6
        due.is("6 by its place", x.weight(0, 6), 32 + 64 + 128 + 256);
        x.build(0, 0); // o >= 7
        due.is("6 by the base", x.weight(0, 6), 64 + 128 + 256);
        x.put(1, 0, 0); // BRASS of 2 holds 20 to the west: any
        due.is("6 by others there", x.weight(0, 6), 511);
        x.cut(0, 1);
        due.is("6 not by its own ounces", x.weight(0, 6), 511);
        x.lift(1);
        due.is("6 nor by others elsewhere", x.weight(0, 6), 64 + 128 + 256);
        x.lift(0);
        due.is("6 on the plain", x.weight(0, 6), 511);

        HeldTowns brass = Due.read("0,0;b102,s112,p104");
        brass.see(0, 0, 4, false); // PEBBLE 100 and 6 o
        due.is("6 beside a pebble", brass.weight(0, 6), 511);
        brass.lift(2); // 6 o >= 20: o >= 4
        due.is("6 brass twice", brass.weight(0, 6), 511 - 7);
        brass.see(1, 1, 3, true); // 3 o < 15: o <= 4
        due.is("6 snow", brass.weight(1, 6), 15);
        brass.blow(0, 0);
        brass.blow(0, 0); // 3 (o + 2) < 15: o <= 2
        due.is("6 snow counted", brass.weight(1, 6), 3);
        brass.put(2, 1, 4);
        brass.see(2, 0, 20, false);
        due.is("6 a pebble of any ounces", brass.weight(2, 6), 511);
        brass.see(2, 1, 99, false); // 500 to the east
        due.is("6 even then", brass.weight(2, 6), 511);
        brass.see(2, 0, 99, false);
        due.is("6 or of none", brass.weight(2, 6), 0);
    }

    // 6: what = 7
    private static void windToWaitFor() {
        // To the west 5 o: FORCE f LIFTS o < f. Of nine 5 are left at worst by f = 5 (4 lift) or 6.
        HeldTowns x = Due.read("0,0;w500,p212");
        due.is("6 wait", x.weight(0, 7), 5);
        x.see(0, 0, 5, false); // 5 to 9: f = 7 leaves 3 at worst, of 2 and 3
        due.is("6 wait for more", x.weight(0, 7), 7);
        x.see(0, 0, 7, true); // 5, 6
        due.is("6 wait of two", x.weight(0, 7), 6);
        x.see(0, 0, 6, false); // 6 alone: any wind leaves 1
        due.is("6 wait of one", x.weight(0, 7), 0);
        due.is("6 one", x.weight(0, 6), 32);
        x.see(0, 0, 6, true);
        due.is("6 wait of none", x.weight(0, 7), NONE);
        due.is("6 a pebble tells nothing", x.weight(1, 7), 0);
        x.forget();
        x.lift(0);
        due.is("6 wait on the plain", x.weight(0, 7), NONE);
        // At PLACE 4 the west has 1 o, the east 5 o: FORCE 1 west LIFTS 1 to 4 (5 left), as good as 105.
        x.put(0, 0, 4);
        due.is("6 the least of like ones", x.weight(0, 7), 1);
        // With a BASE of 1, PLACE 4: west 3 + o < 5 only o = 1; < 10 o <= 6 (6 left); east 3 + 5 o: < 25 o <= 4.
        x.build(0, 1);
        due.is("6 from the east", x.weight(0, 7), 105);
        // Beside a PEBBLE at PLACE 0: 500 and o to the west beyond what 99 tells, 100 + 5 o to the east.
        HeldTowns y = Due.read("0,0;w504,p100");
        due.is("6 up to 99", y.weight(0, 7), 125);
        due.is("6 far", y.weight(0, 6), 511);
        // To the west 400 + 90 + o: 99 LIFTS 1 to 4; to the east 200 + 18 + 5 o: 149 as good.
        HeldTowns most = Due.read("0,0;w504,p101,b900");
        due.is("6 for 99", most.weight(0, 7), 99);
        // Two PEBBLES hold more than any FORCE either way.
        HeldTowns z = Due.read("0,0;w502,p100,p104");
        due.is("6 no wind tells", z.weight(0, 7), 0);
    }

    // 7
    private static void as() {
        HeldTowns x = Due.read("1,2;w300,b411,c512,s613,p704");
        for (int weight = 0; weight < 5; weight++) {
            for (int kind = 0; kind < 5; kind++) {
                boolean such = kind == 0 || kind == weight || kind == 1 && weight == 4;
                due.is("7 as(" + weight + ", " + kind + ")", x.as(weight, kind), such ? weight : NONE);
            }
        }
        due.is("7 kind 5", x.as(0, 5), OUTSIDE);
        due.is("7 kind -1", x.as(0, -1), OUTSIDE);
        due.is("7 weight 5", x.as(5, 0), UNKNOWN);
        due.is("7 weight -1", x.as(-1, 9), UNKNOWN);
    }

    // 8
    private static void village() {
        HeldTowns x = Due.read("2,0,9;w400,p112,s324,b502,p104");
        // 0: 6, WEIGHT 4 at 0, BRASS 10 at 2, PEBBLE at 4
        villageIs(x, 0, new int[] {2, 6 + 20 + 30 + 100, 6 + 4 + 30 + 500, 31, 99, 31, 1 + 8 + 16, 10});
        villageIs(x, 1, new int[] {0, 300, 300, 60, 60, 60, 2, 1});
        villageIs(x, 2, new int[] {9, 27 + 3, 27 + 15, 6, 8, 6, 4, 3});
        x.lift(2);
        villageIs(x, 2, new int[] {9, 27, 27, 5, 5, 5, 0, 0});
        x.put(1, 0, 0);
        villageIs(x, 0, new int[] {2, 656, 640, 99, 99, 99, 27, 11});
        due.is("8 village 3", x.village(3, 0), UNKNOWN);
        due.is("8 village -1", x.village(-1, 0), UNKNOWN);
        due.is("8 what 8", x.village(0, 8), OUTSIDE);
        due.is("8 what -1", x.village(2, -1), OUTSIDE);
        due.is("8 unknown first", x.village(3, 8), UNKNOWN);
    }

    private static void villageIs(HeldTowns x, int village, int[] told) {
        for (int what = 0; what < told.length; what++) {
            due.is("8 village(" + village + ", " + what + ")", x.village(village, what), told[what]);
        }
    }

    // 9
    private static void lifts() {
        HeldTowns x = Due.read("1,0;w300,p100");
        // to the west 3 + 15 + 500, to the east 3 + 3 + 100
        due.is("9 stands west 99", x.lifts(0, 0, 99), 0);
        due.is("9 stands east 21", x.lifts(0, 1, 21), 0);
        due.is("9 lifts east 22", x.lifts(0, 1, 22), 1);
        x.lift(1);
        due.is("9 18 west of 3", x.lifts(0, 0, 3), 0);
        due.is("9 18 west of 4", x.lifts(0, 0, 4), 1);
        x.cut(0, 2);
        due.is("9 5 east of 1", x.lifts(0, 1, 1), 0);
        due.is("9 nothing lifts by 0", x.lifts(1, 0, 0), 0);
        due.is("9 nothing holds 1", x.lifts(1, 1, 1), 1);
        due.is("9 nothing blew", x.count(5), 0);
        due.is("9 village", x.lifts(2, 0, 0), UNKNOWN);
        due.is("9 village -1", x.lifts(-1, 2, 100), UNKNOWN);
        due.is("9 side 2", x.lifts(0, 2, 0), OUTSIDE);
        due.is("9 side -1", x.lifts(0, -1, 0), OUTSIDE);
        due.is("9 force 100", x.lifts(0, 0, 100), OUTSIDE);
        due.is("9 force -1", x.lifts(0, 0, -1), OUTSIDE);
    }

    // 10
    private static void blow() {
        HeldTowns x = Due.read("1,0,9;w300,b212,w111");
        // 0: 18 west, 6 east; 1: 12 + 4 west, 12 + 2 east; 2: 27 both
        due.is("10 one", x.blow(0, 3), 0);
        due.is("10 two of three", x.blow(1, 3), 2);
        due.is("10 fell west", x.weight(0, 2), NONE);
        due.is("10 slid west", x.weight(1, 3), 1);
        due.is("10 slid west too", x.weight(2, 3), 0);
        due.is("10 winds", x.count(5), 2);
        due.is("10 lifted", x.count(6), 2);
        due.is("10 fell", x.count(7), 1);
        due.is("10 all three", x.blow(0, 99), 3);
        due.is("10 slid east", x.weight(1, 3), 2);
        due.is("10 lifted in all", x.count(6), 5);
        due.is("10 side 2", x.blow(2, 0), OUTSIDE);
        due.is("10 side -1", x.blow(-1, 0), OUTSIDE);
        due.is("10 force -1", x.blow(0, -1), OUTSIDE);
        due.is("10 force 100", x.blow(0, 100), OUTSIDE);
        due.is("10 outside first", new HeldTowns().blow(0, 100), OUTSIDE);
        due.is("10 state", new HeldTowns().blow(1, 99), STATE);
    }

    // 10: beyond 512 calls the document leaves answers free; FULL can be reached in no other way.
    private static void blowIsFull() {
        HeldTowns x = Due.read("1,0;w300");
        for (int i = 0; i < 999; i++) {
            x.blow(0, 0);
        }
        due.is("10 blew", x.count(5), 999);
        due.is("10 full", x.blow(0, 0), FULL);
        due.is("10 outside ahead of full", x.blow(0, 100), OUTSIDE);
        due.is("10 still", x.count(5), 999);
    }

    // 10: SLIDE, FALL
    private static void slidesAndFalls() {
        HeldTowns x = Due.read("0,0;w103,w204,p110,w110");
        due.is("10 one lifts", x.blow(0, 9), 1);
        due.is("10 to the edge", x.weight(0, 3), 4);
        due.is("10 over the edge", x.weight(1, 2), NONE);
        due.is("10 no place", x.weight(1, 3), NONE);
        due.is("10 a held one stays", x.weight(3, 3), 0);
        x.blow(0, 9);
        due.is("10 then it falls, too", x.weight(0, 2), NONE);
        due.is("10 fell", x.count(7), 2);
        due.is("10 on the plain", x.count(2), 2);
        due.is("10 the village lifts still", x.blow(0, 9), 1);
        due.is("10 none falls twice", x.count(7), 2);
        // 101 + 1 to the east LIFTS by 21: all WEIGHTS SLIDE, a PEBBLE too.
        due.is("10 two lift", x.blow(1, 21), 2);
        due.is("10 a pebble falls", x.weight(2, 2), NONE);
        due.is("10 and one beside it", x.weight(3, 2), NONE);
        due.is("10 fell in all", x.count(7), 4);
    }

    // 10: CHIPPED, SNOW
    private static void weathering() {
        HeldTowns x = Due.read("9,0;c200,s300,c514,s214");
        due.is("10 calm", x.blow(0, 0), 0);
        due.is("10 chipped less", x.weight(0, 1), 1);
        due.is("10 chipped less there", x.weight(2, 1), 4);
        due.is("10 snow more", x.weight(1, 5), 1);
        // 27 + 5 + 20 to the west STANDS 10, no more
        due.is("10 both lift", x.blow(0, 11), 2);
        due.is("10 not below 1", x.weight(0, 1), 1);
        due.is("10 slid and counted", x.weight(1, 5), 2);
        due.is("10 slid", x.weight(1, 3), 1);
        due.is("10 who fell chips no more", x.weight(2, 1), 4);
        due.is("10 of who fell nothing is counted", x.weight(3, 5), 0);
        x.blow(1, 0);
        x.blow(1, 0);
        x.blow(1, 0);
        due.is("10 three at most", x.weight(1, 5), 3);
        due.is("10 bears", x.weight(1, 4), 6);
        due.is("10 on the plain none is counted", x.weight(3, 5), 0);
        due.is("10 on the plain none chips", x.weight(2, 1), 4);
        x.put(2, 0, 2);
        x.blow(1, 0);
        due.is("10 put again it chips", x.weight(2, 1), 3);
    }

    // 11
    private static void put() {
        HeldTowns x = Due.read("9,0;s200,w300");
        x.blow(0, 0);
        due.is("11 from 0 to 1", x.put(0, 1, 4), 0);
        due.is("11 village", x.weight(0, 2), 1);
        due.is("11 place", x.weight(0, 3), 4);
        due.is("11 nothing is counted", x.weight(0, 5), 0);
        x.blow(0, 0);
        due.is("11 where it is", x.put(0, 1, 4), 1);
        due.is("11 nothing is counted there, either", x.weight(0, 5), 0);
        x.lift(0);
        due.is("11 from the plain", x.put(0, 0, 0), NONE);
        due.is("11 weight", x.put(2, 0, 0), UNKNOWN);
        due.is("11 weight -1", x.put(-1, 0, 5), UNKNOWN);
        due.is("11 village 2", x.put(0, 2, 0), UNKNOWN);
        due.is("11 village -1", x.put(0, -1, 5), UNKNOWN);
        due.is("11 place 5", x.put(0, 1, 5), OUTSIDE);
        due.is("11 place -1", x.put(0, 1, -1), OUTSIDE);
        due.is("11 it stays", x.weight(0, 2), 0);
    }

    // 12
    private static void lift() {
        HeldTowns x = Due.read("9,0;s212,w300");
        x.blow(0, 0);
        due.is("12 was in", x.lift(0), 1);
        due.is("12 village", x.weight(0, 2), NONE);
        due.is("12 place", x.weight(0, 3), NONE);
        due.is("12 nothing is counted", x.weight(0, 5), 0);
        due.is("12 it did not fall", x.count(7), 0);
        due.is("12 plain", x.count(2), 1);
        due.is("12 again", x.lift(0), STATE);
        due.is("12 unknown", x.lift(2), UNKNOWN);
        due.is("12 unknown -1", x.lift(-1), UNKNOWN);
        due.is("12 the other", x.lift(1), 0);
    }

    // 13
    private static void cut() {
        HeldTowns x = Due.read("9,0;s212,w300");
        x.blow(0, 0);
        due.is("13 had", x.cut(0, 9), 2);
        due.is("13 has", x.cut(0, 1), 9);
        due.is("13 snow stays", x.weight(0, 5), 1);
        due.is("13 bears", x.weight(0, 4), 2);
        x.lift(1);
        due.is("13 on the plain, too", x.cut(1, 4), 3);
        due.is("13 of all", x.count(3), 5);
        due.is("13 none", x.cut(0, 0), OUTSIDE);
        due.is("13 ten", x.cut(0, 10), OUTSIDE);
        due.is("13 unknown", x.cut(2, 10), UNKNOWN);
        due.is("13 unknown -1", x.cut(-1, 1), UNKNOWN);
        due.is("13 as it was", x.weight(0, 1), 1);
    }

    // 14
    private static void build() {
        HeldTowns x = Due.read("9,0;w300");
        due.is("14 did", x.build(0, 0), 9);
        due.is("14 does", x.build(0, 9), 0);
        due.is("14 the other", x.build(1, 4), 0);
        due.is("14 holds", x.village(1, 1), 12);
        due.is("14 ten", x.build(0, 10), OUTSIDE);
        due.is("14 -1", x.build(0, -1), OUTSIDE);
        due.is("14 unknown", x.build(2, 10), UNKNOWN);
        due.is("14 unknown -1", x.build(-1, 0), UNKNOWN);
        due.is("14 as it was", x.village(0, 0), 9);
    }

    // 15
    private static void where() {
        HeldTowns x = Due.read("0,0;w500,b304");
        // WEIGHT 0 in VILLAGE 0: 6 and 30 by the BRASS, then 31/35, 26/40, 21/45, ...
        due.is("15 place", x.where(0, 0, 0), 0);
        due.is("15 least", x.where(0, 0, 1), 31 / 5);
        due.is("15 alone", x.where(0, 1, 0), 2);
        due.is("15 alone, least", x.where(0, 1, 1), 3);
        // BRASS 6 beside 25 and 5: at 2 43/23, at 3 37/29, at 4 31/35
        due.is("15 the other", x.where(1, 0, 0), 4);
        due.is("15 the other, least", x.where(1, 0, 1), 6);
        due.is("15 nothing is put", x.weight(1, 3), 4);
        x.cut(0, 1);
        // at 0 11/31, at 1 10/32, at 2 9/33: of 0 and 1 (LEAST 2) the least
        due.is("15 of like ones the least", x.where(0, 0, 0), 0);
        x.lift(0);
        due.is("15 from the plain", x.where(0, 0, 1), 2);
        due.is("15 less than 5", x.where(0, 1, 0), 0);
        due.is("15 less than 5, least", x.where(0, 1, 1), 0);
        HeldTowns snow = Due.read("0,0;s402");
        snow.blow(0, 0);
        snow.blow(0, 0);
        due.is("15 snow bears", snow.village(0, 5), 3);
        due.is("15 nothing is counted then", snow.where(0, 0, 1), 2);
        HeldTowns great = Due.read("0,0;p100,p100,p104");
        // 500 + 500 + 100 and 100 + 100 + 500: 99 at most wherever the last is
        due.is("15 99 at most", great.where(2, 0, 1), 99);
        // at 0 1500/300, at 1 1400/400, at 2 1300/500: LEAST 60, 80, 99
        due.is("15 99 at first", great.where(2, 0, 0), 2);
        due.is("15 weight", great.where(3, 0, 0), UNKNOWN);
        due.is("15 weight -1", great.where(-1, 0, 2), UNKNOWN);
        due.is("15 village", great.where(0, 2, 2), UNKNOWN);
        due.is("15 village -1", great.where(0, -1, 0), UNKNOWN);
        due.is("15 what 2", great.where(0, 0, 2), OUTSIDE);
        due.is("15 what -1", great.where(0, 0, -1), OUTSIDE);
    }

    // 16
    private static void pack() {
        // BASES hold 27 and 0: FORCE 5 needs nothing for 0, and 25 both ways for 1.
        HeldTowns x = Due.read("9,0;w900,b500,w600,p100");
        packIs(x, 5, new int[] {2, 1, 0, 8, 0, 0});
        x.cut(3, 9);
        // WEIGHT 9 alone 27, BRASS 5 alone 30 for 5 OUNCES
        packIs(x, 5, new int[] {2, 5, 0, 2, 0, 0});
        // FORCE 6: 30; VILLAGE 0 lacks 3 both ways: WEIGHT 6 (9 is dearer)
        packIs(x, 6, new int[] {2, 11, 4, 2, 0, 0});
        HeldTowns none = Due.read("0,0;w900,w900");
        packIs(none, 20, new int[] {0, 0, 0, 0, 0, 0});
        HeldTowns like = Due.read("0,0,0;w500,w510,w520,w900");
        // FORCE 3 by any of 5 OUNCES at 2: 15
        packIs(like, 3, new int[] {3, 15, 1, 2, 4, 0});
        // FORCE 6: 30 by two of 5 (30/30), or one of 9 (27/27) and one of 5; first is who gives VILLAGE 0 nothing
        packIs(like, 6, new int[] {2, 24, 0, 3, 12, 0});
        HeldTowns one = Due.read("0,0,0,0;w512");
        packIs(one, 1, new int[] {1, 5, 0, 0, 0, 1});
        due.is("16 nothing is put", one.weight(0, 2), 1);
        HeldTowns snow = Due.read("0,0;s402");
        for (int i = 0; i < 3; i++) {
            snow.blow(0, 0);
        }
        packIs(snow, 2, new int[] {1, 4, 0, 1, 0, 0});
        packIs(snow, 3, new int[] {0, 0, 0, 0, 0, 0});
        snow.lift(0);
        packIs(snow, 2, new int[] {1, 4, 0, 1, 0, 0});
    }

    private static void packIs(HeldTowns x, int force, int[] told) {
        int[] whats = {0, 1, 10, 11, 12, 13};
        for (int i = 0; i < whats.length; i++) {
            due.is("16 pack(" + force + ", " + whats[i] + ")", x.pack(force, whats[i]), told[i]);
        }
    }

    // 16: 20 times
    private static void packCounts() {
        HeldTowns x = Due.read("9,0;w900");
        int[] outside = {-1, 2, 9, 14, LOW, HIGH};
        for (int what : outside) {
            due.is("16 what " + what, x.pack(1, what), OUTSIDE);
        }
        due.is("16 force 0", x.pack(0, 0), OUTSIDE);
        due.is("16 force 21", x.pack(21, 0), OUTSIDE);
        due.is("16 none was done", x.count(11), 0);
        due.is("16 force 1", x.pack(1, 0), 2);
        due.is("16 force 20", x.pack(20, 0), 0);
        x.image();
        for (int i = 3; i <= 19; i++) {
            x.pack(1, 0);
        }
        due.is("16 nineteen", x.count(11), 19);
        x.restore();
        due.is("16 an image does not keep it", x.count(11), 19);
        due.is("16 the twentieth", x.pack(1, 1), 9);
        due.is("16 no more", x.pack(1, 0), STATE);
        due.is("16 outside first", x.pack(0, 0), OUTSIDE);
        due.is("16 twenty", x.count(11), 20);
        Due.write(x, "9,0;w900");
        x.table();
        due.is("16 it was done, whatever the table", x.count(11), 20);
        due.is("16 so no more then", x.pack(1, 0), STATE);
        due.is("16 outside ahead of no table", new HeldTowns().pack(1, 2), OUTSIDE);
    }

    // 17
    private static void mend() {
        // VILLAGE 0: 9/9, VILLAGE 1: 12/12 by BRASS 2 at 2
        HeldTowns x = Due.read("0,0;w302,b212,w902");
        x.lift(2);
        due.is("17 the least one", x.mend(), 0);
        due.is("17 nothing is mended", x.weight(0, 1), 3);
        x.cut(0, 4); // 12/12 and 12/12: mending one helps nothing
        due.is("17 both are like", x.mend(), NONE);
        x.cut(0, 9); // 27: the BRASS, to 18
        due.is("17 brass", x.mend(), 1);
        x.cut(1, 9);
        due.is("17 nine have no more", x.mend(), NONE);
        HeldTowns y = Due.read("0,1;w200,w204,w904");
        // VILLAGE 0: 10 + 2 + 9 and 2 + 10 + 45; VILLAGE 1: 3/3 lies at 0 without a weight
        due.is("17 a village without a weight", y.mend(), NONE);
        y.build(1, 9); // 21/57: 0 adds 5, 1 adds 1
        due.is("17 it helps", y.mend(), 0);
        y.cut(2, 1); // 13/17 adds 5/1, 1/5: 18/18, 14/22: 0
        due.is("17 by its place", y.mend(), 0);
        y.put(1, 0, 0); // 10 + 10 + 1, 2 + 2 + 5: 21/9: any of 0, 1 makes 26/10
        due.is("17 of like ones the least", y.mend(), 0);
        y.put(0, 1, 0); // 11/7 with 1, and 37/29: 2 gives 12/12
        due.is("17 the other", y.mend(), 2);
        HeldTowns pebble = Due.read("9,9;p100,w100");
        due.is("17 a village alone is least", pebble.mend(), NONE);
        HeldTowns great = Due.read("0,0;p102,w112");
        due.is("17 to 2 ounces", great.mend(), 1);
        great.cut(1, 9);
        due.is("17 a pebble bears no more", great.mend(), NONE);
        HeldTowns plain = Due.read("0,0;w102,w112");
        plain.lift(1);
        due.is("17 not one on the plain", plain.mend(), NONE);
        due.is("17 the last of five", Due.read("9,0;w102,w102,w102,w102,w412").mend(), 4);
        due.is("17 state", new HeldTowns().mend(), STATE);
    }

    // 18
    private static void odds() {
        // 0 stands 0 alone, from both sides: 2 of 20
        HeldTowns x = Due.read("0,9;w300");
        x.lift(0);
        oddsAre(x, 1, 1, 10);
        oddsAre(x, 4, 1, 10000);
        x.put(0, 0, 0); // 15/3: 0 to 3 west, 0 east: 5 of 20
        oddsAre(x, 1, 1, 4);
        oddsAre(x, 3, 1, 64);
        x.cut(0, 9);
        x.put(0, 0, 2); // 27/27; the other has 27, too: 12 of 20
        oddsAre(x, 1, 3, 5);
        oddsAre(x, 2, 9, 25);
        oddsAre(x, 4, 81, 625);
        x.build(0, 2); // 33/33: still the other
        oddsAre(x, 2, 9, 25);
        // all stand: 9 is as much as blows
        HeldTowns sure = Due.read("9,9;p102,p112");
        oddsAre(sure, 1, 1, 1);
        oddsAre(sure, 4, 1, 1);
        HeldTowns two = Due.read("0,0;b902,w910");
        // 0: 54/54 stands 9 of both; 1: 45/9: 9 west, 1 east: 10 + 2
        oddsAre(two, 1, 3, 5);
        two.put(1, 1, 1); // 36/18: 7 and 3: 8 + 4
        oddsAre(two, 1, 3, 5);
        two.cut(1, 8); // 32/16: 6 and 3: 7 + 4 = 11
        oddsAre(two, 4, 14641, 160000);
        due.is("18 hours 0", x.odds(0, 0), OUTSIDE);
        due.is("18 hours 5", x.odds(5, 0), OUTSIDE);
        due.is("18 what 2", x.odds(1, 2), OUTSIDE);
        due.is("18 what -1", x.odds(1, -1), OUTSIDE);
        due.is("18 outside first", new HeldTowns().odds(5, 0), OUTSIDE);
        due.is("18 state", new HeldTowns().odds(4, 1), STATE);
    }

    private static void oddsAre(HeldTowns x, int hours, int above, int below) {
        due.is("18 odds(" + hours + ", 0)", x.odds(hours, 0), above);
        due.is("18 odds(" + hours + ", 1)", x.odds(hours, 1), below);
    }

    // 19
    private static void see() {
        HeldTowns x = Due.read("0,0;w500,w510");
        for (int i = 1; i <= 8; i++) {
            due.is("19 seen", x.see(i % 2, i % 2, 99, true), i);
        }
        due.is("19 full", x.see(0, 0, 0, false), FULL);
        due.is("19 side ahead of full", x.see(0, 2, 0, false), OUTSIDE);
        due.is("19 weight ahead of all", x.see(2, 2, 100, false), UNKNOWN);
        due.is("19 weight -1", x.see(-1, 0, 0, false), UNKNOWN);
        due.is("19 side -1", x.see(0, -1, 0, false), OUTSIDE);
        due.is("19 force 100", x.see(0, 0, 100, false), OUTSIDE);
        due.is("19 force -1", x.see(0, 0, -1, false), OUTSIDE);
        due.is("19 eight", x.count(8), 8);
        due.is("19 all agrees", x.weight(0, 6), 511);
        HeldTowns y = Due.read("0,0;w500");
        y.lift(0);
        due.is("19 on the plain", y.see(0, 1, 3, false), 1);
        y.put(0, 0, 1); // 2 o >= 15: 8, 9
        due.is("19 it tells when it is put", y.weight(0, 6), 128 + 256);
        y.put(0, 1, 4); // 5 o >= 15: 3 and more
        due.is("19 anywhere", y.weight(0, 6), 511 - 3);
    }

    // 20
    private static void forget() {
        HeldTowns x = Due.read("0,0;w500");
        x.see(0, 0, 4, true);
        x.see(0, 0, 1, true);
        due.is("20 was", x.forget(), 2);
        due.is("20 nothing is", x.forget(), 0);
        due.is("20 count", x.count(8), 0);
        due.is("20 any", x.weight(0, 6), 511);
        due.is("20 anew", x.see(0, 0, 4, true), 1);
    }

    // 21
    private static void decades() {
        HeldTowns x = Due.read("0,0;w104,c910");
        long before = x.digest();
        // SEED 0: 12345 (0 by 65536: side 0), then 1406932606 (21468: FORCE 8)
        due.is("21 seed", x.decades(1, 0, 2), 1406932606);
        // from the west, 8: VILLAGE 0 holds 1 and LIFTS, VILLAGE 1 holds 45 and STANDS
        due.is("21 lifts", x.decades(1, 0, 0), 1);
        due.is("21 plain", x.decades(1, 0, 1), 1);
        x.lift(1);
        due.is("21 two lift", x.decades(1, 0, 0), 2);
        due.is("21 who was there is counted", x.decades(1, 0, 1), 2);
        x.put(1, 1, 0);
        due.is("21 nothing is changed", x.digest(), before);
        due.is("21 great seed", x.decades(1, HIGH, 2), 288979989);
        due.is("21 winds 0", x.decades(0, 0, 0), OUTSIDE);
        due.is("21 winds 61", x.decades(61, 0, 0), OUTSIDE);
        due.is("21 seed -1", x.decades(1, -1, 0), OUTSIDE);
        due.is("21 what 3", x.decades(1, 0, 3), OUTSIDE);
        due.is("21 what -1", x.decades(1, 0, -1), OUTSIDE);
        due.is("21 outside first", new HeldTowns().decades(61, 0, 0), OUTSIDE);
        due.is("21 state", new HeldTowns().decades(60, 0, 0), STATE);
        decadesAsBlown(7);
        decadesAsBlown(2147483646);
    }

    // What is told is what comes if the same WINDS blow.
    private static void decadesAsBlown(int seed) {
        String text = "3,1,4;c904,s911,b820,w302,s224";
        HeldTowns told = Due.read(text);
        told.blow(0, 3);
        HeldTowns blown = Due.read(text);
        blown.blow(0, 3);
        long s = seed;
        int lifted = 0;
        for (int wind = 1; wind <= 60; wind++) {
            s = (1103515245L * s + 12345) % (1L << 31);
            int side = (int) (s / 65536 % 2);
            s = (1103515245L * s + 12345) % (1L << 31);
            lifted += blown.blow(side, (int) (s / 65536 % 10));
            due.is("21 lifts by " + wind, told.decades(wind, seed, 0), lifted);
            due.is("21 plain by " + wind, told.decades(wind, seed, 1), blown.count(2));
            due.is("21 seed by " + wind, told.decades(wind, seed, 2), s);
        }
    }

    // 22
    private static void image() {
        HeldTowns x = Due.read("0,9;w104,s910");
        due.is("22 none blew", x.image(), 0);
        x.blow(1, 2);
        x.blow(0, 2);
        due.is("22 two blew", x.image(), 2);
        x.blow(0, 2);
        due.is("22 the latest", x.restore(), 2);
        due.is("22 state", new HeldTowns().image(), STATE);
    }

    // 23
    private static void restore() {
        HeldTowns x = Due.read("1,9;w104,s910,c900");
        due.is("23 none was kept", x.restore(), STATE);
        x.blow(0, 1);
        x.blow(1, 9);
        due.is("23 two fell", x.count(7), 2);
        x.put(1, 1, 2); // 27 + 3 o
        x.see(1, 0, 9, true); // 27 + 3 o < 45: 5 at most
        x.see(0, 1, 3, false); // 3 + 4 o >= 15: 3 at least
        x.see(0, 0, 3, true); // 3 + 2 o < 15: 5 at most
        x.image();
        due.is("23 seen of one", x.weight(1, 6), 31);
        due.is("23 seen of the other", x.weight(0, 6), 28);
        long kept = x.digest();
        for (int time = 0; time < 2; time++) {
            disturb(x);
            due.holds("23 it was another", x.digest() != kept);
            due.is("23 it goes on", x.restore(), 2);
            due.is("23 all is as kept", x.digest(), kept);
        }
        Due.write(x, "1,9;w104,s910,c900");
        due.is("23 the page is not kept", x.restore(), 2);
        due.is("23 so it stays", x.count(9), 18);
        x.table();
        due.is("23 another table since", x.restore(), STATE);
        due.is("23 kept anew", x.image(), 0);
        due.is("23 then", x.restore(), 0);
    }

    private static void disturb(HeldTowns x) {
        x.build(0, 7);
        x.build(1, 0);
        x.cut(0, 9);
        x.put(0, 1, 4);
        x.blow(0, 99);
        x.blow(1, 99);
        due.is("23 one more fell", x.count(7), 3);
        x.put(2, 0, 3);
        x.cut(2, 3);
        x.forget();
        x.see(2, 1, 7, false);
        x.see(2, 0, 8, true);
        x.see(2, 1, 6, false);
        x.see(2, 0, 5, true);
    }

    // 24
    private static void count() {
        HeldTowns x = Due.read("2,3,1;w404,b412,c520,s303");
        // 0: 6 + 4 + 6, 6 + 20 + 12; 1: 9 + 24; 2: 3 + 25, 3 + 5
        countsAre(x, new int[] {3, 4, 0, 16, 1, 0, 0, 0, 0, 0, 1, 0});
        x.blow(0, 4); // 16 < 20: 0 LIFTS
        x.see(0, 0, 4, true);
        x.pack(3, 0);
        Due.write(x, "12");
        // 0: 6, and SNOW 4 at 4: 10/26; CHIPPED 4: 3 + 20, 3 + 4
        countsAre(x, new int[] {3, 4, 1, 15, 1, 1, 1, 1, 1, 2, 1, 1});
        x.put(2, 2, 2); // 15/15
        due.is("24 least of all", x.count(4), 2);
        due.is("24 what 12", x.count(12), OUTSIDE);
        due.is("24 what -1", x.count(-1), OUTSIDE);
        due.is("24 high", x.count(HIGH), OUTSIDE);
        HeldTowns great = Due.read("0,0;p100,p104,p110,p114,w900");
        due.is("24 great", great.count(4), 99);
        due.is("24 five", great.count(3), 13);
    }

    private static void countsAre(HeldTowns x, int[] told) {
        for (int what = 0; what < told.length; what++) {
            due.is("24 count(" + what + ")", x.count(what), told[what]);
        }
    }

    // 25
    private static void digest() {
        due.is("25 nothing", new HeldTowns().digest(), digestBy(new HeldTowns(), ""));
        HeldTowns x = Due.written("1,~");
        due.is("25 the page", x.digest(), digestBy(x, "1,~"));
        x.blank();
        Due.write(x, "2,3,1;w404,b412,c520,s303");
        x.table();
        due.is("25 a table", x.digest(), digestBy(x, ""));
        x.see(1, 0, 4, false);
        x.blow(0, 4);
        x.pack(4, 1);
        Due.write(x, "9;");
        due.is("25 all", x.digest(), digestBy(x, "9;"));
        due.is("25 twice", x.digest(), digestBy(x, "9;"));
    }

    private static long digestBy(HeldTowns x, String page) {
        long h = 1163;
        for (int weight = 0; weight < x.count(1); weight++) {
            for (int what = 0; what < 8; what++) {
                h = 31 * h + x.weight(weight, what);
            }
        }
        for (int village = 0; village < x.count(0); village++) {
            for (int what = 0; what < 8; what++) {
                h = 31 * h + x.village(village, what);
            }
            for (int weight = 0; weight < x.count(1); weight++) {
                h = 31 * (31 * h + x.where(weight, village, 0)) + x.where(weight, village, 1);
            }
        }
        if (x.count(0) > 0) {
            h = 31 * (31 * (31 * h + x.mend()) + x.odds(3, 0)) + x.odds(3, 1);
        }
        for (char letter : page.toCharArray()) {
            h = 31 * h + letter;
        }
        for (int what = 0; what < 12; what++) {
            h = 31 * h + x.count(what);
        }
        return h;
    }

    // 'Refusals change nothing', with a TABLE and without
    private static void refusalsChangeNothing() {
        refuseAll(new HeldTowns(), "no table");
        HeldTowns x = Due.read("2,3;s404,c412");
        x.blow(0, 1);
        x.lift(1);
        for (int i = 0; i < 8; i++) {
            x.see(0, 0, i, true);
        }
        for (int i = 0; i < 20; i++) {
            x.pack(1, 0);
        }
        Due.write(x, "1,2;w1");
        due.is("table is refused", x.table(), STATE);
        due.is("lift is refused", x.lift(1), STATE);
        due.is("see is refused", x.see(0, 0, 0, true), FULL);
        due.is("pack is refused", x.pack(1, 0), STATE);
        refuseAll(x, "a table");
    }

    private static void refuseAll(HeldTowns x, String name) {
        long before = x.digest();
        long[] refused = {x.letter(31), x.table(), x.weight(5, 0), x.weight(0, 8), x.as(5, 0), x.as(0, 5),
            x.village(4, 0), x.village(0, 8), x.lifts(4, 0, 0), x.lifts(0, 2, 0), x.lifts(0, 0, 100), x.blow(2, 0),
            x.blow(0, 100), x.put(5, 0, 0), x.put(0, 4, 0), x.put(0, 0, 5), x.lift(5), x.lift(1), x.cut(5, 1),
            x.cut(0, 10), x.build(4, 1), x.build(0, 10), x.where(5, 0, 0), x.where(0, 4, 0), x.where(0, 0, 2),
            x.pack(0, 0), x.pack(1, 2), x.pack(1, 0), x.odds(0, 0), x.odds(1, 2), x.see(5, 0, 0, true),
            x.see(0, 2, 0, true), x.see(0, 0, 100, true), x.see(0, 0, 0, true), x.decades(0, 0, 0),
            x.decades(1, -1, 0), x.decades(1, 0, 3), x.restore(), x.count(12)};
        for (int i = 0; i < refused.length; i++) {
            due.holds(name + ": refusal " + i, refused[i] <= UNKNOWN && refused[i] >= FULL);
        }
        due.is(name + ": nothing changed", x.digest(), before);
    }
}
