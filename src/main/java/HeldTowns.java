/** A windy table land whose villages are held down by paperweights; DOC.md numbers what each call promises. */
public final class HeldTowns {
    public static final int NONE = -1, UNKNOWN = -101, OUTSIDE = -102, STATE = -103, FULL = -104;

    private static final int MOST_LETTERS = 36;
    private static final int LEAST_VILLAGES = 2;
    private static final int MOST_VILLAGES = 4;
    private static final int MOST_WEIGHTS = 5;
    private static final int MOST_BASE = 9;
    private static final int MOST_OUNCES = 9;
    private static final int LAST_PLACE = 4;
    private static final int MIDDLE_PLACE = 2;
    private static final int MOST_COUNTED_OF_SNOW = 3;
    private static final int MOST_SEEN = 8;
    private static final int MOST_WINDS = 999;
    private static final int MOST_PACKS = 20;

    private static final int SIDES = 2;
    private static final int WEST = 0;
    private static final int EAST = 1;
    private static final int MOST_FORCE = 99;
    private static final int HOLD_FOR_A_FORCE = 5;
    private static final int HOLD_OF_A_BASE = 3;

    private static final String KIND_LETTERS = "wbcsp";
    private static final int KINDS = 5;
    private static final int WEIGHT = 0;
    private static final int BRASS = 1;
    private static final int CHIPPED = 2;
    private static final int SNOW = 3;
    private static final int PEBBLE = 4;
    private static final int PEBBLE_BEARS = 100;

    private static final int HOURLY_FORCES = 10;
    private static final int HOURLY_WINDS = SIDES * HOURLY_FORCES;

    private final Page page;
    private final Land land;
    private final Seen seen;
    private final Land imageLand;
    private final Seen imageSeen;
    private final Land trial;
    private final Packing packing;
    private boolean imageKept;
    private int tablesRead;
    private int packsDone;

    public HeldTowns() {
        page = new Page();
        land = new Land();
        seen = new Seen();
        imageLand = new Land();
        imageSeen = new Seen();
        trial = new Land();
        packing = new Packing();
        imageKept = false;
        tablesRead = 0;
        packsDone = 0;
    }

    // ---- the table

    public int letter(int code) {
        if (code < 32 || code > 126) {
            return OUTSIDE;
        }
        if (page.length >= MOST_LETTERS) {
            return FULL;
        }
        page.append(code);
        return page.length;
    }

    public int blank() {
        int had = page.length;
        page.length = 0;
        return had;
    }

    public int fault() {
        return page.scan();
    }

    public int table() {
        if (!page.isTable()) {
            return STATE;
        }
        page.readInto(land);
        page.length = 0;
        seen.length = 0;
        imageKept = false;
        tablesRead++;
        return land.villages;
    }

    // ---- weights, villages

    public int weight(int weight, int what) {
        if (!isWeight(weight)) {
            return UNKNOWN;
        }
        switch (what) {
            case 0: return land.kinds[weight];
            case 1: return land.ounces[weight];
            case 2: return land.homes[weight];
            case 3: return land.places[weight];
            case 4: return bearing(land.kinds[weight], land.ounces[weight], land.snows[weight]);
            case 5: return land.snows[weight];
            case 6: return seen.possibleOunces(land, weight);
            case 7: return seen.windToWaitFor(land, weight);
            default: return OUTSIDE;
        }
    }

    public int as(int weight, int kind) {
        if (!isWeight(weight)) {
            return UNKNOWN;
        }
        if (kind < 0 || kind >= KINDS) {
            return OUTSIDE;
        }
        return isOfKind(land.kinds[weight], kind) ? weight : NONE;
    }

    public int village(int village, int what) {
        if (!isVillage(village)) {
            return UNKNOWN;
        }
        switch (what) {
            case 0: return land.bases[village];
            case 1: return land.holdBut(NONE, village, WEST);
            case 2: return land.holdBut(NONE, village, EAST);
            case 3: return standBy(land.holdBut(NONE, village, WEST));
            case 4: return standBy(land.holdBut(NONE, village, EAST));
            case 5: return land.leastOf(village);
            case 6: return land.weightsIn(village);
            case 7: return land.ouncesIn(village);
            default: return OUTSIDE;
        }
    }

    public int lifts(int village, int side, int force) {
        if (!isVillage(village)) {
            return UNKNOWN;
        }
        if (!isWind(side, force)) {
            return OUTSIDE;
        }
        return liftsAt(land.holdBut(NONE, village, side), force) ? 1 : 0;
    }

    // ---- what is done

    public int blow(int side, int force) {
        if (!isWind(side, force)) {
            return OUTSIDE;
        }
        if (!hasTable()) {
            return STATE;
        }
        if (land.winds >= MOST_WINDS) {
            return FULL;
        }
        return land.takeWind(side, force);
    }

    public int put(int weight, int village, int place) {
        if (!isWeight(weight) || !isVillage(village)) {
            return UNKNOWN;
        }
        if (place < 0 || place > LAST_PLACE) {
            return OUTSIDE;
        }
        int was = land.homes[weight];
        land.moveTo(weight, village, place);
        return was;
    }

    public int lift(int weight) {
        if (!isWeight(weight)) {
            return UNKNOWN;
        }
        int was = land.homes[weight];
        if (was == NONE) {
            return STATE;
        }
        land.moveTo(weight, NONE, NONE);
        return was;
    }

    public int cut(int weight, int ounces) {
        if (!isWeight(weight)) {
            return UNKNOWN;
        }
        if (ounces < 1 || ounces > MOST_OUNCES) {
            return OUTSIDE;
        }
        int had = land.ounces[weight];
        land.ounces[weight] = ounces;
        return had;
    }

    public int build(int village, int base) {
        if (!isVillage(village)) {
            return UNKNOWN;
        }
        if (base < 0 || base > MOST_BASE) {
            return OUTSIDE;
        }
        int had = land.bases[village];
        land.bases[village] = base;
        return had;
    }

    // ---- what would be

    public int where(int weight, int village, int what) {
        if (!isWeight(weight) || !isVillage(village)) {
            return UNKNOWN;
        }
        if (what < 0 || what > 1) {
            return OUTSIDE;
        }
        int place = land.bestPlace(weight, village);
        return what == 0 ? place : land.leastIfPut(weight, village, place);
    }

    public int pack(int force, int what) {
        if (force < 1 || force > 20 || !isPackAnswer(what)) {
            return OUTSIDE;
        }
        if (!hasTable() || packsDone >= MOST_PACKS) {
            return STATE;
        }
        packsDone++;
        packing.search(land, force);
        switch (what) {
            case 0: return packing.mostStanding;
            case 1: return packing.fewestOunces;
            default: return packing.best[what - 10];
        }
    }

    public int mend() {
        return hasTable() ? land.bestToMend() : STATE;
    }

    public int odds(int hours, int what) {
        if (hours < 1 || hours > 4 || what < 0 || what > 1) {
            return OUTSIDE;
        }
        if (!hasTable()) {
            return STATE;
        }
        int stood = land.hourlyWindsStood();
        // A power of lowest terms is in lowest terms.
        int part = what == 0 ? inLowestTerms(stood, HOURLY_WINDS) : inLowestTerms(HOURLY_WINDS, stood);
        int power = 1;
        for (int hour = 0; hour < hours; hour++) {
            power *= part;
        }
        return power;
    }

    // ---- what is seen

    public int see(int weight, int side, int force, boolean lifts) {
        if (!isWeight(weight)) {
            return UNKNOWN;
        }
        if (!isWind(side, force)) {
            return OUTSIDE;
        }
        if (seen.length >= MOST_SEEN) {
            return FULL;
        }
        seen.append(weight, side, force, lifts);
        return seen.length;
    }

    public int forget() {
        int had = seen.length;
        seen.length = 0;
        return had;
    }

    public int decades(int winds, int seed, int what) {
        if (winds < 1 || winds > 60 || seed < 0 || what < 0 || what > 2) {
            return OUTSIDE;
        }
        if (!hasTable()) {
            return STATE;
        }
        trial.copyFrom(land);
        int lifted = 0;
        int draw = seed;
        for (int wind = 0; wind < winds; wind++) {
            draw = nextSeed(draw);
            int side = drawnOf(draw, SIDES);
            draw = nextSeed(draw);
            lifted += trial.takeWind(side, drawnOf(draw, HOURLY_FORCES));
        }
        switch (what) {
            case 0: return lifted;
            case 1: return trial.weightsOnPlain();
            default: return draw;
        }
    }

    // ---- what is told of all

    public int image() {
        if (!hasTable()) {
            return STATE;
        }
        imageLand.copyFrom(land);
        imageSeen.copyFrom(seen);
        imageKept = true;
        return land.winds;
    }

    public int restore() {
        if (!imageKept) {
            return STATE;
        }
        land.copyFrom(imageLand);
        seen.copyFrom(imageSeen);
        return land.winds;
    }

    public int count(int what) {
        switch (what) {
            case 0: return land.villages;
            case 1: return land.weights;
            case 2: return land.weightsOnPlain();
            case 3: return land.ouncesOfAll();
            case 4: return hasTable() ? land.leastOfAll() : 0;
            case 5: return land.winds;
            case 6: return land.lifted;
            case 7: return land.fallen;
            case 8: return seen.length;
            case 9: return page.length;
            case 10: return tablesRead;
            case 11: return packsDone;
            default: return OUTSIDE;
        }
    }

    public long digest() {
        long h = 1163;
        for (int weight = 0; weight < land.weights; weight++) {
            for (int what = 0; what <= 7; what++) {
                h = mixed(h, weight(weight, what));
            }
        }
        for (int village = 0; village < land.villages; village++) {
            for (int what = 0; what <= 7; what++) {
                h = mixed(h, village(village, what));
            }
            for (int weight = 0; weight < land.weights; weight++) {
                h = mixed(h, where(weight, village, 0));
                h = mixed(h, where(weight, village, 1));
            }
        }
        if (hasTable()) {
            h = mixed(h, mend());
            h = mixed(h, odds(3, 0));
            h = mixed(h, odds(3, 1));
        }
        for (int i = 0; i < page.length; i++) {
            h = mixed(h, page.letters[i]);
        }
        for (int what = 0; what <= 11; what++) {
            h = mixed(h, count(what));
        }
        return h;
    }

    private static long mixed(long h, long number) {
        return 31 * h + number;
    }

    // ---- what arguments may be

    private boolean hasTable() {
        return land.villages > 0;
    }

    private boolean isWeight(int number) {
        return number >= 0 && number < land.weights;
    }

    private boolean isVillage(int number) {
        return number >= 0 && number < land.villages;
    }

    private static boolean isWind(int side, int force) {
        return side >= 0 && side < SIDES && force >= 0 && force <= MOST_FORCE;
    }

    private static boolean isPackAnswer(int what) {
        return what == 0 || what == 1 || what >= 10 && what < 10 + MOST_VILLAGES;
    }

    // ---- rules that need no table

    private static boolean isOfKind(int own, int kind) {
        return kind == WEIGHT || kind == own || kind == BRASS && own == PEBBLE;
    }

    private static int bearing(int kind, int ounces, int snow) {
        switch (kind) {
            case BRASS: return 2 * ounces;
            case SNOW: return ounces + snow;
            case PEBBLE: return PEBBLE_BEARS;
            default: return ounces;
        }
    }

    private static int leverage(int place, int side) {
        return side == WEST ? LAST_PLACE + 1 - place : place + 1;
    }

    private static boolean liftsAt(int hold, int force) {
        return hold < HOLD_FOR_A_FORCE * force;
    }

    private static int standBy(int hold) {
        return Math.min(MOST_FORCE, hold / HOLD_FOR_A_FORCE);
    }

    /** One of two numbers, neither above HOURLY_WINDS, less what divides both. */
    private static int inLowestTerms(int number, int other) {
        for (int divisor = HOURLY_WINDS; divisor > 1; divisor--) {
            if (number % divisor == 0 && other % divisor == 0) {
                return number / divisor;
            }
        }
        return number;
    }

    private static int nextSeed(int seed) {
        return (int) ((1103515245L * seed + 12345L) % 2147483648L);
    }

    private static int drawnOf(int seed, int many) {
        return many < 1 ? 0 : seed / 65536 % many;
    }

    /** THE PAGE: letters that may come to be a TABLE. */
    private static final class Page {
        // What the next letter has to be, by the letters ahead of it.
        private static final int A_BASE = 0;
        private static final int BEHIND_A_BASE = 1;
        private static final int A_KIND = 2;
        private static final int AN_OUNCE = 3;
        private static final int A_HOME = 4;
        private static final int A_PLACE = 5;
        private static final int BEHIND_A_WEIGHT = 6;
        private static final int NOTHING = 7;

        final int[] letters;
        int length;
        private int villages;
        private int weights;
        private int due;

        Page() {
            letters = new int[MOST_LETTERS];
            length = 0;
            villages = 0;
            weights = 0;
            due = A_BASE;
        }

        void append(int code) {
            if (length < MOST_LETTERS) {
                letters[length] = code;
                length++;
            }
        }

        /** The place of the first letter that no TABLE has there, or how many letters there are. */
        int scan() {
            villages = 0;
            weights = 0;
            due = A_BASE;
            for (int i = 0; i < length; i++) {
                due = dueBehind(letters[i]);
                if (due == NOTHING) {
                    return i;
                }
            }
            return length;
        }

        boolean isTable() {
            return scan() == length && due == BEHIND_A_WEIGHT;
        }

        private int dueBehind(int code) {
            switch (due) {
                case A_BASE: return behindBase(code);
                case BEHIND_A_BASE: return behindBaseSign(code);
                case A_KIND: return KIND_LETTERS.indexOf((char) code) >= 0 ? AN_OUNCE : NOTHING;
                case AN_OUNCE: return isDigit(code, 1, MOST_OUNCES) ? A_HOME : NOTHING;
                case A_HOME: return isDigit(code, 0, villages - 1) ? A_PLACE : NOTHING;
                case A_PLACE: return behindPlace(code);
                case BEHIND_A_WEIGHT: return code == ',' && weights < MOST_WEIGHTS ? A_KIND : NOTHING;
                default: return NOTHING;
            }
        }

        private int behindBase(int code) {
            if (!isDigit(code, 0, MOST_BASE)) {
                return NOTHING;
            }
            villages++;
            return BEHIND_A_BASE;
        }

        private int behindBaseSign(int code) {
            if (code == ',' && villages < MOST_VILLAGES) {
                return A_BASE;
            }
            return code == ';' && villages >= LEAST_VILLAGES ? A_KIND : NOTHING;
        }

        private int behindPlace(int code) {
            if (!isDigit(code, 0, LAST_PLACE)) {
                return NOTHING;
            }
            weights++;
            return BEHIND_A_WEIGHT;
        }

        private static boolean isDigit(int code, int from, int to) {
            return code >= '0' + from && code <= '0' + to;
        }

        /** Only behind isTable(): then each VILLAGE takes two letters, and each WEIGHT five (the last one four). */
        void readInto(Land land) {
            land.clear(villages, weights);
            for (int village = 0; village < land.villages; village++) {
                land.bases[village] = digitAt(2 * village);
            }
            for (int weight = 0; weight < land.weights; weight++) {
                int start = 2 * villages + 5 * weight;
                land.kinds[weight] = kindAt(start);
                land.ounces[weight] = digitAt(start + 1);
                land.homes[weight] = digitAt(start + 2);
                land.places[weight] = digitAt(start + 3);
            }
        }

        private int kindAt(int at) {
            return at >= 0 && at < length ? KIND_LETTERS.indexOf((char) letters[at]) : WEIGHT;
        }

        private int digitAt(int at) {
            return at >= 0 && at < length ? letters[at] - '0' : 0;
        }
    }

    /** All that a TABLE tells, as it is now or would be. */
    private static final class Land {
        int villages;
        int weights;
        final int[] bases;
        final int[] kinds;
        final int[] ounces;
        final int[] homes;
        final int[] places;
        final int[] snows;
        int winds;
        int lifted;
        int fallen;

        Land() {
            villages = 0;
            weights = 0;
            bases = new int[MOST_VILLAGES];
            kinds = new int[MOST_WEIGHTS];
            ounces = new int[MOST_WEIGHTS];
            homes = new int[MOST_WEIGHTS];
            places = new int[MOST_WEIGHTS];
            snows = new int[MOST_WEIGHTS];
            winds = 0;
            lifted = 0;
            fallen = 0;
        }

        void clear(int newVillages, int newWeights) {
            villages = Math.max(0, Math.min(MOST_VILLAGES, newVillages));
            weights = Math.max(0, Math.min(MOST_WEIGHTS, newWeights));
            for (int weight = 0; weight < MOST_WEIGHTS; weight++) {
                snows[weight] = 0;
            }
            winds = 0;
            lifted = 0;
            fallen = 0;
        }

        void copyFrom(Land other) {
            villages = other.villages;
            weights = other.weights;
            for (int village = 0; village < MOST_VILLAGES; village++) {
                bases[village] = other.bases[village];
            }
            for (int weight = 0; weight < MOST_WEIGHTS; weight++) {
                kinds[weight] = other.kinds[weight];
                ounces[weight] = other.ounces[weight];
                homes[weight] = other.homes[weight];
                places[weight] = other.places[weight];
                snows[weight] = other.snows[weight];
            }
            winds = other.winds;
            lifted = other.lifted;
            fallen = other.fallen;
        }

        /** The HOLD of a VILLAGE to a side, but for one WEIGHT (NONE: of all). */
        int holdBut(int left, int village, int side) {
            int hold = HOLD_OF_A_BASE * bases[village];
            for (int weight = 0; weight < weights; weight++) {
                if (homes[weight] == village && weight != left) {
                    hold += bearing(kinds[weight], ounces[weight], snows[weight]) * leverage(places[weight], side);
                }
            }
            return hold;
        }

        /** The HOLD of the VILLAGE where a WEIGHT is, if it had so many OUNCES; 0 on the PLAIN. */
        int holdIfOunces(int weight, int heavy, int side) {
            int village = homes[weight];
            if (village == NONE) {
                return 0;
            }
            int bears = bearing(kinds[weight], heavy, snows[weight]);
            return holdBut(weight, village, side) + bears * leverage(places[weight], side);
        }

        private int holdIfPut(int weight, int village, int place, int side) {
            int bears = bearing(kinds[weight], ounces[weight], 0);
            return holdBut(weight, village, side) + bears * leverage(place, side);
        }

        int leastOf(int village) {
            return standBy(Math.min(holdBut(NONE, village, WEST), holdBut(NONE, village, EAST)));
        }

        int leastOfAll() {
            int least = MOST_FORCE;
            for (int village = 0; village < villages; village++) {
                least = Math.min(least, leastOf(village));
            }
            return least;
        }

        int leastIfPut(int weight, int village, int place) {
            return standBy(Math.min(
                    holdIfPut(weight, village, place, WEST), holdIfPut(weight, village, place, EAST)));
        }

        int bestPlace(int weight, int village) {
            int best = 0;
            int greatest = NONE;
            for (int place = 0; place <= LAST_PLACE; place++) {
                int least = leastIfPut(weight, village, place);
                if (least > greatest) {
                    greatest = least;
                    best = place;
                }
            }
            return best;
        }

        private int leastOfAllIfMended(int weight) {
            int heavy = ounces[weight] + 1;
            int least = standBy(Math.min(holdIfOunces(weight, heavy, WEST), holdIfOunces(weight, heavy, EAST)));
            for (int village = 0; village < villages; village++) {
                if (village != homes[weight]) {
                    least = Math.min(least, leastOf(village));
                }
            }
            return least;
        }

        int bestToMend() {
            int best = NONE;
            int greatest = leastOfAll();
            for (int weight = 0; weight < weights; weight++) {
                if (homes[weight] != NONE && ounces[weight] < MOST_OUNCES) {
                    int least = leastOfAllIfMended(weight);
                    if (least > greatest) {
                        greatest = least;
                        best = weight;
                    }
                }
            }
            return best;
        }

        /** Of the WINDS that an hour can bring, those by which no VILLAGE LIFTS. */
        int hourlyWindsStood() {
            int stood = 0;
            for (int side = 0; side < SIDES; side++) {
                int strongest = HOURLY_FORCES - 1;
                for (int village = 0; village < villages; village++) {
                    strongest = Math.min(strongest, standBy(holdBut(NONE, village, side)));
                }
                stood += strongest + 1;
            }
            return stood;
        }

        int weightsIn(int village) {
            int bits = 0;
            for (int weight = 0; weight < weights; weight++) {
                if (homes[weight] == village) {
                    bits |= 1 << weight;
                }
            }
            return bits;
        }

        int weightsOnPlain() {
            return Integer.bitCount(weightsIn(NONE));
        }

        int ouncesIn(int village) {
            int sum = 0;
            for (int weight = 0; weight < weights; weight++) {
                if (homes[weight] == village) {
                    sum += ounces[weight];
                }
            }
            return sum;
        }

        int ouncesOfAll() {
            int sum = 0;
            for (int weight = 0; weight < weights; weight++) {
                sum += ounces[weight];
            }
            return sum;
        }

        void moveTo(int weight, int village, int place) {
            homes[weight] = village;
            places[weight] = place;
            snows[weight] = 0;
        }

        /** How many VILLAGES LIFT. */
        int takeWind(int side, int force) {
            // All VILLAGES are looked at ahead of the first that SLIDES.
            int lifting = 0;
            for (int village = 0; village < villages; village++) {
                if (liftsAt(holdBut(NONE, village, side), force)) {
                    lifting |= 1 << village;
                }
            }
            int step = side == WEST ? 1 : -1;
            for (int weight = 0; weight < weights; weight++) {
                if (homes[weight] != NONE && (lifting >> homes[weight] & 1) == 1) {
                    slide(weight, step);
                }
                weather(weight);
            }
            int many = Integer.bitCount(lifting);
            winds++;
            lifted += many;
            return many;
        }

        private void slide(int weight, int step) {
            int place = places[weight] + step;
            if (place < 0 || place > LAST_PLACE) {
                moveTo(weight, NONE, NONE);
                fallen++;
            } else {
                places[weight] = place;
            }
        }

        private void weather(int weight) {
            if (homes[weight] == NONE) {
                return;
            }
            if (kinds[weight] == CHIPPED && ounces[weight] > 1) {
                ounces[weight]--;
            }
            if (kinds[weight] == SNOW && snows[weight] < MOST_COUNTED_OF_SNOW) {
                snows[weight]++;
            }
        }
    }

    /** What is SEEN, and what it tells of the OUNCES of WEIGHTS. */
    private static final class Seen {
        private static final int ALL_OUNCES = (1 << MOST_OUNCES) - 1;

        int length;
        private final int[] weights;
        private final int[] sides;
        private final int[] forces;
        private final boolean[] lifting;
        private final int[] holds;

        Seen() {
            length = 0;
            weights = new int[MOST_SEEN];
            sides = new int[MOST_SEEN];
            forces = new int[MOST_SEEN];
            lifting = new boolean[MOST_SEEN];
            holds = new int[MOST_OUNCES + 1];
        }

        void append(int weight, int side, int force, boolean lifts) {
            if (length < MOST_SEEN) {
                weights[length] = weight;
                sides[length] = side;
                forces[length] = force;
                lifting[length] = lifts;
                length++;
            }
        }

        void copyFrom(Seen other) {
            length = other.length;
            for (int i = 0; i < MOST_SEEN; i++) {
                weights[i] = other.weights[i];
                sides[i] = other.sides[i];
                forces[i] = other.forces[i];
                lifting[i] = other.lifting[i];
            }
        }

        int possibleOunces(Land land, int weight) {
            int bits = ALL_OUNCES;
            if (land.homes[weight] == NONE) {
                return bits;
            }
            for (int i = 0; i < length; i++) {
                for (int heavy = 1; heavy <= MOST_OUNCES && weights[i] == weight; heavy++) {
                    if (liftsAt(land.holdIfOunces(weight, heavy, sides[i]), forces[i]) != lifting[i]) {
                        bits &= ~(1 << heavy - 1);
                    }
                }
            }
            return bits;
        }

        int windToWaitFor(Land land, int weight) {
            int possible = possibleOunces(land, weight);
            if (possible == 0 || land.homes[weight] == NONE) {
                return NONE;
            }
            int best = NONE;
            int fewest = MOST_OUNCES + 1;
            for (int side = 0; side < SIDES; side++) {
                fillHolds(land, weight, side);
                for (int force = 0; force <= MOST_FORCE; force++) {
                    int left = leftAtWorst(possible, force);
                    if (left < fewest) {
                        fewest = left;
                        best = 100 * side + force;
                    }
                }
            }
            return best;
        }

        // The HOLDS are the same for all FORCES, so they are found once a side.
        private void fillHolds(Land land, int weight, int side) {
            for (int heavy = 1; heavy <= MOST_OUNCES; heavy++) {
                holds[heavy] = land.holdIfOunces(weight, heavy, side);
            }
        }

        private int leftAtWorst(int possible, int force) {
            int lifts = 0;
            for (int heavy = 1; heavy <= MOST_OUNCES; heavy++) {
                if ((possible >> heavy - 1 & 1) == 1 && liftsAt(holds[heavy], force)) {
                    lifts++;
                }
            }
            return Math.max(lifts, Integer.bitCount(possible) - lifts);
        }
    }

    /** The search for which WEIGHTS to PUT to which VILLAGES; its rows are used again by each search. */
    private static final class Packing {
        private static final int SETS = 1 << MOST_WEIGHTS;

        final int[] best;
        int mostStanding;
        int fewestOunces;
        private final int[] chosen;
        private final int[] ouncesOfSet;
        private final int[] holdOfSet;

        Packing() {
            best = new int[MOST_VILLAGES];
            mostStanding = NONE;
            fewestOunces = 0;
            chosen = new int[MOST_VILLAGES];
            ouncesOfSet = new int[SETS];
            holdOfSet = new int[SETS];
        }

        void search(Land land, int force) {
            for (int set = 0; set < SETS; set++) {
                weigh(land, set);
            }
            for (int village = 0; village < MOST_VILLAGES; village++) {
                chosen[village] = 0;
                best[village] = 0;
            }
            mostStanding = NONE;
            fewestOunces = 0;
            chooseFrom(land, force, 0, (1 << land.weights) - 1, 0, 0);
        }

        // The HOLDS of a WEIGHT to both sides make 6 times what it BEARS, wherever it is, and in the middle they are
        // alike: no PLACES give a set a greater lesser HOLD than the middle for all of it.
        private void weigh(Land land, int set) {
            int sum = 0;
            int bears = 0;
            for (int weight = 0; weight < land.weights; weight++) {
                if ((set >> weight & 1) == 1) {
                    sum += land.ounces[weight];
                    bears += bearing(land.kinds[weight], land.ounces[weight], 0);
                }
            }
            ouncesOfSet[set] = sum;
            holdOfSet[set] = bears * leverage(MIDDLE_PLACE, WEST);
        }

        // Sets are tried in the order of their numbers, VILLAGE 0 first: the first found of like ones is the one.
        private void chooseFrom(Land land, int force, int village, int free, int standing, int ounces) {
            if (village >= land.villages || village >= MOST_VILLAGES) {
                keepIfBetter(standing, ounces);
                return;
            }
            int base = HOLD_OF_A_BASE * land.bases[village];
            for (int set = 0; set <= free && set < SETS; set++) {
                boolean stands = !liftsAt(base + holdOfSet[set], force);
                // WEIGHTS where nothing STANDS by them only add OUNCES.
                if ((set & ~free) == 0 && (stands || set == 0)) {
                    chosen[village] = set;
                    chooseFrom(land, force, village + 1, free & ~set,
                            standing + (stands ? 1 : 0), ounces + ouncesOfSet[set]);
                }
            }
        }

        private void keepIfBetter(int standing, int ounces) {
            if (standing > mostStanding || standing == mostStanding && ounces < fewestOunces) {
                mostStanding = standing;
                fewestOunces = ounces;
                for (int village = 0; village < MOST_VILLAGES; village++) {
                    best[village] = chosen[village];
                }
            }
        }
    }
}
