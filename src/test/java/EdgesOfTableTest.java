/** Promises 1 to 5 at their edges, sentence by sentence: a new object, THE PAGE, THE TABLE. */
public final class EdgesOfTableTest {
    private static final String DIGITS = "0123456789";
    private static final String MOST = "1,2,3,4;w134,b234,c334,s434,p534";
    private static final Edge edge = new Edge();

    public static void main(String[] args) {
        newObjectCounts();
        newObjectRefuses();
        codes();
        fullPage();
        blankPage();
        firstFault();
        lettersThatTablesHave();
        noFault();
        howManyVillages();
        anotherIsGone();
        anotherTakesImageAndSeen();
        pageIsEmptyThen();
        itIsNone();
        edge.end("EdgesOfTableTest");
    }

    private static void newObjectCounts() {
        edge.says(1, "No TABLE.");
        HeldTowns x = new HeldTowns();
        edge.are("count", x::count, 0, 0, 0, 0, 0, 0, 0, 0, 0, 0, 0, 0, 0);
        long h = 1163;
        for (int i = 0; i < 12; i++) {
            h *= 31;
        }
        edge.is("digest", x.digest(), h);
        edge.is("fault", x.fault(), 0);
        edge.is("blank", x.blank(), 0);
        edge.is("forget", x.forget(), 0);
    }

    private static void newObjectRefuses() {
        edge.says(1, "No TABLE.");
        HeldTowns x = new HeldTowns();
        edge.still(x, "table", Edge.STATE, () -> x.table());
        edge.still(x, "weight", Edge.UNKNOWN, () -> x.weight(0, 0));
        edge.still(x, "as", Edge.UNKNOWN, () -> x.as(0, 0));
        edge.still(x, "village", Edge.UNKNOWN, () -> x.village(0, 0));
        edge.still(x, "lifts", Edge.UNKNOWN, () -> x.lifts(0, 0, 0));
        edge.still(x, "blow", Edge.STATE, () -> x.blow(0, 0));
        edge.still(x, "put", Edge.UNKNOWN, () -> x.put(0, 0, 0));
        edge.still(x, "lift", Edge.UNKNOWN, () -> x.lift(0));
        edge.still(x, "cut", Edge.UNKNOWN, () -> x.cut(0, 1));
        edge.still(x, "build", Edge.UNKNOWN, () -> x.build(0, 0));
        edge.still(x, "where", Edge.UNKNOWN, () -> x.where(0, 0, 0));
        edge.still(x, "pack", Edge.STATE, () -> x.pack(1, 0));
        edge.still(x, "mend", Edge.STATE, () -> x.mend());
        edge.still(x, "odds", Edge.STATE, () -> x.odds(1, 0));
        edge.still(x, "see", Edge.UNKNOWN, () -> x.see(0, 0, 0, true));
        edge.still(x, "decades", Edge.STATE, () -> x.decades(1, 0, 0));
        edge.still(x, "image", Edge.STATE, () -> x.image());
        edge.still(x, "restore", Edge.STATE, () -> x.restore());
    }

    private static void codes() {
        edge.says(2, "OUTSIDE: code (32 to 126)");
        HeldTowns x = new HeldTowns();
        edge.range(x, "code", Edge.OUTSIDE, 32, 126, x::letter);
        edge.is("the two that were taken", x.count(9), 2);
        edge.is("a code and 65536 is another one", x.letter('1' + 65536), Edge.OUTSIDE);
    }

    private static void fullPage() {
        edge.says(2, "FULL: above 36.");
        HeldTowns x = new HeldTowns();
        for (int i = 1; i <= 36; i++) {
            edge.is("letter " + i, x.letter('1'), i);
        }
        edge.still(x, "letter 37", Edge.FULL, () -> x.letter('1'));
        edge.still(x, "a code below, told first", Edge.OUTSIDE, () -> x.letter(31));
        edge.still(x, "a code above, told first", Edge.OUTSIDE, () -> x.letter(127));
        edge.is("it has 36 still", x.blank(), 36);
        edge.is("then there is room", x.letter('1'), 1);
    }

    private static void blankPage() {
        edge.says(3, "THE PAGE is empty: how many letters it had.");
        HeldTowns x = new HeldTowns();
        edge.still(x, "none", 0, () -> x.blank());
        x.letter('x');
        edge.is("one", x.blank(), 1);
        edge.is("none again", x.blank(), 0);
        edge.is("no fault on it", x.fault(), 0);
        Due.write(x, MOST + "    ");
        edge.is("36", x.blank(), 36);
        Due.write(x, "1,2;w101");
        edge.is("it begins anew", x.table(), 2);
        x.blow(0, 1);
        x.see(0, 0, 1, true);
        x.image();
        long before = x.digest();
        x.letter('1');
        edge.is("one beside a table", x.blank(), 1);
        edge.is("the table stays", x.digest(), before);
        edge.is("its image, too", x.restore(), 1);
    }

    private static void firstFault() {
        edge.says(4, "The place (from 0) of the first letter of THE PAGE that no TABLE has there");
        faultIn("x", 0);
        faultIn("x,2;w101", 0);
        faultIn("1,2;w1x1,x101", 6);
        faultIn("1,2;w101x", 8);
        faultIn("1,2,3,4,5;w101", 7);
        faultIn(MOST + ",w10", 32);
        faultIn("                                    ", 0);
        edge.says(4, "(a VILLAGE that there is not is a fault)");
        faultIn("1,2;w121", 6);
        faultIn("1,2,3;w131", 8);
        faultIn("1,2,3,4;w141", 10);
        faultIn("1,2;w111,w121", 11);
    }

    private static void faultIn(String text, int place) {
        HeldTowns x = Due.written(text);
        edge.still(x, "fault of " + text, place, () -> x.fault());
        edge.still(x, "table of " + text, Edge.STATE, () -> x.table());
    }

    private static void lettersThatTablesHave() {
        edge.says(4, "that no TABLE has there, behind those ahead of it");
        only("", DIGITS);
        only("5", ",");
        only("5,", DIGITS);
        only("5,5", ",;");
        only("5,5,5", ",;");
        only("5,5,5,5", ";");
        only("5,5;", "wbcsp");
        only("5,5;b", "123456789");
        only("5,5;c1", "01");
        only("5,5,5;s1", "012");
        only("5,5,5,5;p1", "0123");
        only("5,5;w11", "01234");
        only("5,5,5,5;w13", "01234");
        only("5,5;w114", ",");
        only("5,5;w114,", "wbcsp");
        only("5,5;w114,p9", "01");
        only("5,5;w114,p900,c502,s303", ",");
        only("5,5;w114,p900,c502,s303,b111", "");
        only(MOST, "");
    }

    private static void only(String ahead, String may) {
        for (char c = 32; c <= 126; c++) {
            int want = ahead.length() + (may.indexOf(c) >= 0 ? 1 : 0);
            edge.is("fault of " + ahead + c, Due.written(ahead + c).fault(), want);
        }
    }

    private static void noFault() {
        edge.says(4, "how many letters it has, if there is none");
        for (int length = 0; length <= MOST.length(); length++) {
            HeldTowns x = Due.written(MOST.substring(0, length));
            edge.still(x, "fault of the first " + length, length, () -> x.fault());
        }
        HeldTowns x = Due.written("1x");
        edge.is("a fault", x.fault(), 1);
        x.blank();
        edge.is("an empty page has none", x.fault(), 0);
        x.letter('1');
        edge.is("nor has the next", x.fault(), 1);
    }

    private static void howManyVillages() {
        edge.says(5, "two to four VILLAGES (numbered from 0)");
        edge.is("one", Due.written("0;w100").table(), Edge.STATE);
        edge.is("two", Due.written("0,9;w104").table(), 2);
        edge.is("three", Due.written("0,9,0;w924").table(), 3);
        edge.is("four", Due.written(MOST).table(), 4);
        edge.is("five", Due.written("1,2,3,4,5;w101").table(), Edge.STATE);
        HeldTowns least = Due.read("0,9;w100");
        edge.is("the least base", least.village(0, 0), 0);
        edge.is("the greatest base", least.village(1, 0), 9);
        edge.is("the least ounces", least.weight(0, 1), 1);
        edge.is("the first village", least.weight(0, 2), 0);
        edge.is("the first place", least.weight(0, 3), 0);
        HeldTowns most = Due.read("9,0,0,0;p934,p934,p934,p934,p934");
        edge.is("the greatest ounces", most.weight(4, 1), 9);
        edge.is("the last village", most.weight(4, 2), 3);
        edge.is("the last place", most.weight(4, 3), 4);
        edge.is("weights may be at one place", most.village(3, 6), 31);
    }

    private static void anotherIsGone() {
        edge.says(5, "(another one is gone, with all that was)");
        HeldTowns x = Due.read("0,0,0,0;s934,w934,w904,c914,p924");
        x.blow(1, 0);
        x.blow(0, 21);
        edge.is("all fell", x.count(7), 5);
        edge.is("all lifted", x.count(6), 4);
        Due.write(x, "9,8;w914");
        edge.is("another", x.table(), 2);
        edge.are("count", x::count, 0, 2, 1, 0, 9, 5, 0, 0, 0, 0, 0, 2, 0);
        edge.is("village 2", x.village(2, 0), Edge.UNKNOWN);
        edge.is("weight 1", x.weight(1, 0), Edge.UNKNOWN);
        edge.is("no weight of the other is here", x.village(0, 6), 0);
        edge.is("nor there", x.village(1, 6), 1);
        Due.write(x, "0,0,0,0;s134,s104");
        edge.is("a third", x.table(), 4);
        edge.are("count", x::count, 0, 4, 2, 0, 2, 0, 0, 0, 0, 0, 0, 3, 0);
        edge.is("nothing is counted of snow", x.weight(0, 5), 0);
        x.blow(0, 0);
        Due.write(x, "0,0,0,0;s134,s104");
        x.table();
        edge.is("nor of snow where there was snow", x.weight(0, 5), 0);
    }

    private static void anotherTakesImageAndSeen() {
        edge.says(5, "(another one is gone, with all that was)");
        HeldTowns x = Due.read("0,0;w500");
        for (int i = 0; i < 8; i++) {
            x.see(0, 0, 9, true);
        }
        x.image();
        Due.write(x, "0,0;w500");
        x.table();
        edge.is("nothing is seen", x.forget(), 0);
        edge.is("nor of it", x.weight(0, 6), 511);
        edge.is("its image", x.restore(), Edge.STATE);
        edge.is("there is room to see", x.see(0, 0, 9, true), 1);
    }

    private static void pageIsEmptyThen() {
        edge.says(5, "THE PAGE is empty then.");
        HeldTowns x = Due.written(MOST);
        x.table();
        edge.is("letters", x.count(9), 0);
        edge.is("fault", x.fault(), 0);
        edge.still(x, "so it is none", Edge.STATE, () -> x.table());
        for (int i = 1; i <= 36; i++) {
            edge.is("letter " + i, x.letter(' '), i);
        }
        edge.is("letter 37", x.letter(' '), Edge.FULL);
    }

    private static void itIsNone() {
        edge.says(5, "STATE: it is none.");
        for (int length = 0; length <= MOST.length(); length++) {
            boolean ends = length >= 12 && length % 5 == 2;
            HeldTowns x = Due.read("0,0;s100");
            x.blow(0, 0);
            x.image();
            Due.write(x, MOST.substring(0, length));
            if (ends) {
                edge.is("the first " + length, x.table(), 4);
            } else {
                edge.still(x, "the first " + length, Edge.STATE, () -> x.table());
                edge.is("the image stays", x.restore(), 1);
            }
        }
        HeldTowns x = Due.written(MOST + ",");
        edge.still(x, "one letter too many", Edge.STATE, () -> x.table());
        edge.is("all of it stays", x.blank(), 33);
    }
}
