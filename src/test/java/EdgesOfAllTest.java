import java.math.BigInteger;
import java.util.ArrayList;
import java.util.List;

/** Promises 22 to 25 at their edges, sentence by sentence, and what holds for all calls: refusals, 512 calls. */
public final class EdgesOfAllTest {
    private static final int NONE = Edge.NONE, UNKNOWN = Edge.UNKNOWN, OUTSIDE = Edge.OUTSIDE, STATE = Edge.STATE;
    private static final Edge edge = new Edge();

    public static void main(String[] args) {
        oneTheLatest();
        imageRefuses();
        goesOnFromTheImage();
        imageKeepsNoMore();
        noneWasKept();
        anotherTableSince();
        noTableCounts();
        leastOfAll();
        countsAtTheirEnds();
        countRefuses();
        digestWithoutTable();
        digestWithTable();
        digestWraps();
        refusalsLeaveTheImage();
        upToTheLastCall();
        edge.end("EdgesOfAllTest");
    }

    private static void oneTheLatest() {
        edge.says(22, "An IMAGE is kept (one; the latest): how many WINDS blew.");
        HeldTowns x = Due.read("0,0;w502");
        edge.still(x, "none blew", 0, () -> x.image());
        x.blow(0, 1);
        edge.is("one blew", x.image(), 1);
        x.blow(0, 1);
        edge.is("to the latest", x.restore(), 1);
        edge.is("once more", x.restore(), 1);
        x.blow(0, 1);
        x.blow(0, 1);
        edge.is("three blew", x.image(), 3);
        edge.is("to the latest", x.restore(), 3);
    }

    private static void imageRefuses() {
        edge.says(22, "STATE: no TABLE.");
        HeldTowns x = new HeldTowns();
        edge.still(x, "none", STATE, () -> x.image());
        Due.write(x, "0,0;w502");
        edge.still(x, "on the page it is none yet", STATE, () -> x.image());
        edge.still(x, "so none is kept", STATE, () -> x.restore());
        x.table();
        edge.is("by a refused one none was kept", x.restore(), STATE);
        edge.is("then there is one", x.image(), 0);
    }

    /** Each thing that an IMAGE keeps is changed alone, and is as kept then. */
    private static void goesOnFromTheImage() {
        edge.says(23, "where WEIGHTS are, SNOW, WINDS, how often any LIFTED, how many FELL, SEEN");
        HeldTowns x = Due.read("1,9,2,3;s302,c932,w104,w104,p112");
        x.blow(0, 4);
        x.see(0, 0, 3, true);
        x.image();
        long kept = x.digest();
        x.build(3, 0);
        back(x, "bases", kept);
        x.cut(4, 9);
        back(x, "ounces", kept);
        x.put(4, 3, 2);
        back(x, "a village", kept);
        x.put(4, 1, 4);
        back(x, "a place", kept);
        x.lift(4);
        back(x, "lifted", kept);
        x.put(2, 0, 0);
        back(x, "put from the plain", kept);
        x.put(0, x.weight(0, 2), x.weight(0, 3));
        back(x, "snow", kept);
        x.blow(0, 0);
        back(x, "a wind", kept);
        x.blow(1, 99);
        x.blow(1, 99);
        x.blow(1, 99);
        x.blow(1, 99);
        back(x, "what lifted, and fell", kept);
        x.see(4, 0, 99, false);
        back(x, "seen", kept);
        x.forget();
        back(x, "forgotten", kept);
        x.forget();
        x.see(0, 1, 3, true);
        back(x, "a side", kept);
        x.forget();
        x.see(0, 0, 9, false);
        back(x, "a force", kept);
        x.forget();
        x.see(0, 0, 3, false);
        back(x, "whether it lifts", kept);
        x.forget();
        x.see(1, 0, 3, true);
        back(x, "of which weight", kept);
    }

    private static void back(HeldTowns x, String what, long kept) {
        edge.is(what + ": it was changed", x.digest() == kept ? 1 : 0, 0);
        edge.is(what + ": restore", x.restore(), 1);
        edge.is(what + ": all is as kept", x.digest(), kept);
    }

    private static void imageKeepsNoMore() {
        edge.says(23, "It goes on from the IMAGE: how many WINDS blew.");
        HeldTowns x = Due.read("0,0;w502");
        x.letter('1');
        x.image();
        x.letter(',');
        x.pack(1, 0);
        x.restore();
        edge.is("the page goes on", x.count(9), 2);
        edge.is("tables read", x.count(10), 1);
        edge.is("packs done", x.count(11), 1);
        x.blow(0, 1);
        edge.is("winds go on", x.count(5), 1);
        edge.is("the image does not go with them", x.restore(), 0);
    }

    private static void noneWasKept() {
        edge.says(23, "STATE: none was kept");
        HeldTowns x = new HeldTowns();
        edge.still(x, "no table", STATE, () -> x.restore());
        Due.write(x, "0,0;w502");
        x.table();
        x.blow(0, 1);
        edge.still(x, "a table", STATE, () -> x.restore());
        edge.is("winds", x.count(5), 1);
    }

    private static void anotherTableSince() {
        edge.says(23, "or there is another TABLE since");
        HeldTowns x = Due.read("0,0;w502");
        x.blow(0, 1);
        x.image();
        Due.write(x, "0,0;w50");
        x.table();
        edge.is("a refused one is none", x.restore(), 1);
        x.letter('2');
        edge.is("the page alone is none", x.restore(), 1);
        x.table();
        edge.still(x, "the same text", STATE, () -> x.restore());
        edge.is("its own winds", x.image(), 0);
        x.blow(0, 1);
        edge.is("its own image", x.restore(), 0);
        Due.write(x, "9,9,9;p922");
        x.table();
        edge.still(x, "another text", STATE, () -> x.restore());
        edge.is("it stays", x.count(0), 3);
    }

    private static void noTableCounts() {
        edge.says(24, "(0: no TABLE)");
        HeldTowns x = new HeldTowns();
        edge.is("least of all", x.count(4), 0);
        Due.write(x, "9,9;p102,p112");
        edge.is("on the page it is none yet", x.count(4), 0);
        x.table();
        edge.is("then", x.count(4), 65);
    }

    private static void leastOfAll() {
        edge.says(24, "the least LEAST of all VILLAGES");
        edge.is("99 at most", Due.read("0,0;p100,p104,p110,p114").count(4), 99);
        edge.is("0 at least", Due.read("0,9;w504").count(4), 1);
        edge.is("the first", Due.read("2,9,9,9;w512").count(4), 1);
        edge.is("the last", Due.read("9,9,9,2;w512").count(4), 1);
        edge.is("one without a weight", Due.read("9,0;p102").count(4), 0);
        // 15 + 5 and 15 + 25; 27
        edge.is("the west", Due.read("5,9;w504").count(4), 4);
        edge.is("the east", Due.read("5,9;w500").count(4), 4);
    }

    private static void countsAtTheirEnds() {
        edge.says(24, "How many");
        HeldTowns x = Due.read("0,0,0,0;w904,w914,w924,w934,w904");
        edge.are("all in villages", x::count, 0, 4, 5, 0, 45, 1, 0, 0, 0, 0, 0, 1, 0);
        x.blow(0, 2);
        x.blow(0, 2);
        // 18 to the west in 0 STANDS 3: three LIFT, twice
        edge.are("three of five fell", x::count, 0, 4, 5, 3, 45, 0, 2, 6, 3, 0, 0, 1, 0);
        x.lift(0);
        x.lift(4);
        edge.are("all on the plain", x::count, 0, 4, 5, 5, 45, 0, 2, 6, 3, 0, 0, 1, 0);
        x.put(1, 3, 0);
        edge.is("one is put", x.count(2), 4);
    }

    private static void countRefuses() {
        edge.says(24, "OUTSIDE.");
        HeldTowns none = new HeldTowns();
        edge.range(none, "what, no table", OUTSIDE, 0, 11, none::count);
        HeldTowns x = Due.read("1,2,3;s304,w312");
        edge.range(x, "what", OUTSIDE, 0, 11, x::count);
    }

    private static long due(List<Integer> numbers) {
        BigInteger h = BigInteger.valueOf(1163);
        for (int number : numbers) {
            h = h.multiply(BigInteger.valueOf(31)).add(BigInteger.valueOf(number));
        }
        return h.longValue();
    }

    private static void digestWithoutTable() {
        edge.says(25, "letters of THE PAGE; what count() tells for 0 to 11");
        HeldTowns x = new HeldTowns();
        List<Integer> numbers = new ArrayList<>(List.of(0, 0, 0, 0, 0, 0, 0, 0, 0, 0, 0, 0));
        edge.is("an empty page", x.digest(), due(numbers));
        for (int i = 1; i <= 36; i++) {
            int code = i == 1 ? 32 : i == 36 ? 126 : 40 + i;
            x.letter(code);
            numbers.add(i - 1, code);
            numbers.set(i + 9, i);
            edge.is(i + " letters", x.digest(), due(numbers));
        }
        x.letter('x');
        edge.is("a refused one is none of them", x.digest(), due(numbers));
        x.blank();
        edge.is("blank", x.digest(), new HeldTowns().digest());
    }

    private static void digestWithTable() {
        edge.says(25, "with a TABLE MEND, what odds() tells of 3 for 0 and 1");
        // 0: 3 + 20 and 3 + 4; 1: 27 and 27
        HeldTowns x = Due.read("1,9;w400");
        // To the west 3 + 5 o: FORCE 5 LIFTS 1 to 4, and leaves 5 at worst.
        List<Integer> numbers = new ArrayList<>(List.of(0, 4, 0, 0, 4, 0, 511, 5));
        numbers.addAll(List.of(1, 23, 7, 4, 1, 1, 1, 4, 2, 3)); // at 2 3 + 12 and 3 + 12
        numbers.addAll(List.of(9, 27, 27, 5, 5, 5, 0, 0, 1, 7)); // at 1 27 + 16 and 27 + 8, as good as at 2
        numbers.addAll(List.of(NONE, 343, 8000)); // 5 and 2 of 20
        numbers.addAll(List.of(2, 1, 0, 4, 1, 0, 0, 0, 0, 0, 1, 0));
        edge.is("a table", x.digest(), due(numbers));
        edge.is("twice: it changes nothing", x.digest(), due(numbers));
        x.lift(0);
        List<Integer> plain = new ArrayList<>(List.of(0, 4, NONE, NONE, 4, 0, 511, NONE));
        plain.addAll(List.of(1, 3, 3, 0, 0, 0, 0, 0, 2, 3));
        plain.addAll(List.of(9, 27, 27, 5, 5, 5, 0, 0, 1, 7));
        plain.addAll(List.of(NONE, 1, 1000));
        plain.addAll(List.of(2, 1, 1, 4, 0, 0, 0, 0, 0, 0, 1, 0));
        edge.is("a weight on the plain", x.digest(), due(plain));
    }

    private static void digestWraps() {
        edge.says(25, "(as longs, wrapping)");
        HeldTowns x = Due.read("2,3,1,9;w404,b412,c520,s303,p134");
        Due.write(x, "2,3,1,9;w404,b412,c520,s303,p134");
        x.see(1, 0, 4, false);
        x.blow(0, 4);
        x.pack(4, 1);
        List<Integer> numbers = new ArrayList<>();
        for (int i = 0; i < 40; i++) {
            numbers.add(x.weight(i / 8, i % 8));
        }
        for (int village = 0; village < 4; village++) {
            for (int what = 0; what < 8; what++) {
                numbers.add(x.village(village, what));
            }
            for (int i = 0; i < 10; i++) {
                numbers.add(x.where(i / 2, village, i % 2));
            }
        }
        numbers.addAll(List.of(x.mend(), x.odds(3, 0), x.odds(3, 1)));
        for (char letter : "2,3,1,9;w404,b412,c520,s303,p134".toCharArray()) {
            numbers.add((int) letter);
        }
        for (int what = 0; what < 12; what++) {
            numbers.add(x.count(what));
        }
        edge.is("five weights, four villages, 32 letters", x.digest(), due(numbers));
    }

    /** What digest() does not tell: the IMAGE, and what is SEEN of a WEIGHT on the PLAIN. */
    private static void refusalsLeaveTheImage() {
        edge.says(23, "they change nothing");
        HeldTowns x = Due.read("2,3;s404,c412");
        for (int i = 0; i < 8; i++) {
            x.see(i % 2, 0, i, i % 3 == 0);
        }
        for (int i = 0; i < 20; i++) {
            x.pack(1, 0);
        }
        x.blow(0, 1);
        x.image();
        long kept = x.digest();
        x.lift(1);
        x.blow(0, 2);
        long now = x.digest();
        int[] answers = {x.letter(31), x.table(), x.weight(2, 0), x.weight(0, 8), x.as(2, 0), x.as(0, 5),
            x.village(2, 0), x.village(0, 8), x.lifts(2, 0, 0), x.lifts(0, 2, 0), x.blow(2, 0), x.blow(0, 100),
            x.put(2, 0, 0), x.put(1, 2, 0), x.put(1, 0, 5), x.lift(2), x.lift(1), x.cut(2, 1), x.cut(0, 10),
            x.build(2, 1), x.build(0, 10), x.where(2, 0, 0), x.where(0, 0, 2), x.pack(0, 0), x.pack(1, 0),
            x.odds(0, 0), x.see(2, 0, 0, true), x.see(0, 2, 0, true), x.see(0, 0, 0, true), x.decades(0, 0, 0),
            x.count(12)};
        int[] wants = {OUTSIDE, STATE, UNKNOWN, OUTSIDE, UNKNOWN, OUTSIDE,
            UNKNOWN, OUTSIDE, UNKNOWN, OUTSIDE, OUTSIDE, OUTSIDE,
            UNKNOWN, UNKNOWN, OUTSIDE, UNKNOWN, STATE, UNKNOWN, OUTSIDE,
            UNKNOWN, OUTSIDE, UNKNOWN, OUTSIDE, OUTSIDE, STATE,
            OUTSIDE, UNKNOWN, OUTSIDE, Edge.FULL, OUTSIDE,
            OUTSIDE};
        for (int i = 0; i < answers.length; i++) {
            edge.is("refusal " + i, answers[i], wants[i]);
        }
        edge.is("all is as it was", x.digest(), now);
        edge.is("the image is there", x.restore(), 1);
        edge.is("and as it was kept", x.digest(), kept);
    }

    private static void upToTheLastCall() {
        edge.says(10, "An object is used for at most 512 calls after it has been made");
        HeldTowns x = new HeldTowns();
        int calls = 0;
        for (char letter : "0,0;s502".toCharArray()) {
            x.letter(letter);
            calls++;
        }
        x.table();
        calls++;
        while (calls < 511) {
            edge.is("blow", x.blow(calls % 2, 3), 1);
            calls++;
        }
        edge.is("the 512th call", x.count(5), 502);
    }
}
