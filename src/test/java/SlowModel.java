import java.math.BigInteger;
import java.util.ArrayList;
import java.util.List;
import java.util.regex.Matcher;
import java.util.regex.Pattern;

/**
 * The document once more, written another way: by trying everything out. It shares no code and no shortcut with
 * HeldTowns, so that the two are unlikely to be wrong alike.
 */
final class SlowModel {
    static final int NONE = -1, UNKNOWN = -101, OUTSIDE = -102, STATE = -103, FULL = -104;

    private static final class Weight {
        final char letter;
        int ounces;
        int village;
        int place;
        int snow;

        Weight(char letter, int ounces, int village, int place, int snow) {
            this.letter = letter;
            this.ounces = ounces;
            this.village = village;
            this.place = place;
            this.snow = snow;
        }

        int bears() {
            return letter == 'p' ? 100 : letter == 'b' ? ounces + ounces : letter == 's' ? ounces + snow : ounces;
        }
    }

    private record Sight(int weight, int side, int force, boolean lifts) { }

    private static final class State {
        final List<Integer> bases = new ArrayList<>();
        final List<Weight> weights = new ArrayList<>();
        final List<Sight> seen = new ArrayList<>();
        int winds;
        int lifted;
        int fell;

        State copy() {
            State c = new State();
            c.bases.addAll(bases);
            for (Weight w : weights) {
                c.weights.add(new Weight(w.letter, w.ounces, w.village, w.place, w.snow));
            }
            c.seen.addAll(seen);
            c.winds = winds;
            c.lifted = lifted;
            c.fell = fell;
            return c;
        }

        int hold(int village, int side) {
            int sum = 3 * bases.get(village);
            for (Weight w : weights) {
                if (w.village == village) {
                    sum += w.bears() * (side == 0 ? 5 - w.place : w.place + 1);
                }
            }
            return sum;
        }

        boolean lifts(int village, int side, int force) {
            return !(hold(village, side) >= 5 * force);
        }

        int stand(int village, int side) {
            int force = 99;
            while (lifts(village, side, force)) {
                force--;
            }
            return force;
        }

        int least(int village) {
            return Math.min(stand(village, 0), stand(village, 1));
        }

        int leastOfAll() {
            int least = 99;
            for (int v = 0; v < bases.size(); v++) {
                least = Math.min(least, least(v));
            }
            return least;
        }

        void put(int weight, int village, int place) {
            Weight w = weights.get(weight);
            w.village = village;
            w.place = place;
            w.snow = 0;
        }

        int blow(int side, int force) {
            List<Integer> lifting = new ArrayList<>();
            for (int v = 0; v < bases.size(); v++) {
                if (lifts(v, side, force)) {
                    lifting.add(v);
                }
            }
            for (int i = 0; i < weights.size(); i++) {
                Weight w = weights.get(i);
                if (lifting.contains(w.village)) {
                    w.place += side == 0 ? 1 : -1;
                    if (w.place == 5 || w.place == -1) {
                        put(i, NONE, NONE);
                        fell++;
                    }
                }
            }
            for (Weight w : weights) {
                if (w.village != NONE && w.letter == 'c') {
                    w.ounces = Math.max(1, w.ounces - 1);
                }
                if (w.village != NONE && w.letter == 's') {
                    w.snow = Math.min(3, w.snow + 1);
                }
            }
            winds++;
            lifted += lifting.size();
            return lifting.size();
        }
    }

    private String page = "";
    private State now = new State();
    private State kept = null;
    private int tables = 0;
    private int packs = 0;

    private static Pattern tableOf(int villages) {
        String weight = "[wbcsp][1-9][0-" + (villages - 1) + "][0-4]";
        return Pattern.compile("[0-9](,[0-9]){" + (villages - 1) + "};" + weight + "(," + weight + "){0,4}");
    }

    private static boolean mayBegin(String text) {
        for (int villages = 2; villages <= 4; villages++) {
            Matcher m = tableOf(villages).matcher(text);
            if (m.matches() || m.hitEnd()) {
                return true;
            }
        }
        return false;
    }

    int letter(int code) {
        if (code < 32 || code > 126) {
            return OUTSIDE;
        }
        if (page.length() == 36) {
            return FULL;
        }
        page += (char) code;
        return page.length();
    }

    int blank() {
        int had = page.length();
        page = "";
        return had;
    }

    int fault() {
        int sound = 0;
        while (sound < page.length() && mayBegin(page.substring(0, sound + 1))) {
            sound++;
        }
        return sound;
    }

    int table() {
        for (int villages = 2; villages <= 4; villages++) {
            if (tableOf(villages).matcher(page).matches()) {
                now = new State();
                String[] halves = page.split(";");
                for (String base : halves[0].split(",")) {
                    now.bases.add(Integer.parseInt(base));
                }
                for (String w : halves[1].split(",")) {
                    now.weights.add(new Weight(w.charAt(0), w.charAt(1) - '0', w.charAt(2) - '0', w.charAt(3) - '0', 0));
                }
                page = "";
                kept = null;
                tables++;
                return villages;
            }
        }
        return STATE;
    }

    private boolean noWeight(int weight) {
        return weight < 0 || weight >= now.weights.size();
    }

    private boolean noVillage(int village) {
        return village < 0 || village >= now.bases.size();
    }

    private boolean noTable() {
        return now.bases.isEmpty();
    }

    private static boolean not(int number, int from, int to) {
        return number < from || number > to;
    }

    int weight(int weight, int what) {
        if (noWeight(weight)) {
            return UNKNOWN;
        }
        Weight w = now.weights.get(weight);
        return switch (what) {
            case 0 -> "wbcsp".indexOf(w.letter);
            case 1 -> w.ounces;
            case 2 -> w.village;
            case 3 -> w.place;
            case 4 -> w.bears();
            case 5 -> w.snow;
            case 6 -> possible(weight, now.seen);
            case 7 -> waiting(weight);
            default -> OUTSIDE;
        };
    }

    private int possible(int weight, List<Sight> seen) {
        int bits = 0;
        for (int ounces = 1; ounces <= 9; ounces++) {
            State would = now.copy();
            Weight w = would.weights.get(weight);
            w.ounces = ounces;
            boolean so = true;
            for (Sight s : seen) {
                if (s.weight == weight && w.village != NONE) {
                    so &= would.lifts(w.village, s.side, s.force) == s.lifts;
                }
            }
            bits += so ? 1 << (ounces - 1) : 0;
        }
        return bits;
    }

    private int waiting(int weight) {
        if (now.weights.get(weight).village == NONE || possible(weight, now.seen) == 0) {
            return NONE;
        }
        int best = NONE;
        int fewest = Integer.MAX_VALUE;
        for (int wind = 0; wind < 200; wind++) {
            int worst = 0;
            for (boolean lifts : new boolean[] {true, false}) {
                List<Sight> more = new ArrayList<>(now.seen);
                more.add(new Sight(weight, wind / 100, wind % 100, lifts));
                worst = Math.max(worst, Integer.bitCount(possible(weight, more)));
            }
            if (worst < fewest) {
                fewest = worst;
                best = wind;
            }
        }
        return best;
    }

    int as(int weight, int kind) {
        if (noWeight(weight)) {
            return UNKNOWN;
        }
        if (not(kind, 0, 4)) {
            return OUTSIDE;
        }
        String[] who = {"wbcsp", "bp", "c", "s", "p"};
        return who[kind].indexOf(now.weights.get(weight).letter) >= 0 ? weight : NONE;
    }

    int village(int village, int what) {
        if (noVillage(village)) {
            return UNKNOWN;
        }
        int bits = 0;
        int ounces = 0;
        for (int i = 0; i < now.weights.size(); i++) {
            if (now.weights.get(i).village == village) {
                bits += 1 << i;
                ounces += now.weights.get(i).ounces;
            }
        }
        return switch (what) {
            case 0 -> now.bases.get(village);
            case 1, 2 -> now.hold(village, what - 1);
            case 3, 4 -> now.stand(village, what - 3);
            case 5 -> now.least(village);
            case 6 -> bits;
            case 7 -> ounces;
            default -> OUTSIDE;
        };
    }

    int lifts(int village, int side, int force) {
        if (noVillage(village)) {
            return UNKNOWN;
        }
        if (not(side, 0, 1) || not(force, 0, 99)) {
            return OUTSIDE;
        }
        return now.lifts(village, side, force) ? 1 : 0;
    }

    int blow(int side, int force) {
        if (not(side, 0, 1) || not(force, 0, 99)) {
            return OUTSIDE;
        }
        if (noTable()) {
            return STATE;
        }
        return now.winds == 999 ? FULL : now.blow(side, force);
    }

    int put(int weight, int village, int place) {
        if (noWeight(weight) || noVillage(village)) {
            return UNKNOWN;
        }
        if (not(place, 0, 4)) {
            return OUTSIDE;
        }
        int was = now.weights.get(weight).village;
        now.put(weight, village, place);
        return was;
    }

    int lift(int weight) {
        if (noWeight(weight)) {
            return UNKNOWN;
        }
        int was = now.weights.get(weight).village;
        if (was == NONE) {
            return STATE;
        }
        now.put(weight, NONE, NONE);
        return was;
    }

    int cut(int weight, int ounces) {
        if (noWeight(weight)) {
            return UNKNOWN;
        }
        if (not(ounces, 1, 9)) {
            return OUTSIDE;
        }
        int had = now.weights.get(weight).ounces;
        now.weights.get(weight).ounces = ounces;
        return had;
    }

    int build(int village, int base) {
        if (noVillage(village)) {
            return UNKNOWN;
        }
        return not(base, 0, 9) ? OUTSIDE : now.bases.set(village, base);
    }

    int where(int weight, int village, int what) {
        if (noWeight(weight) || noVillage(village)) {
            return UNKNOWN;
        }
        if (not(what, 0, 1)) {
            return OUTSIDE;
        }
        int[] best = {NONE, NONE};
        for (int place = 4; place >= 0; place--) {
            State would = now.copy();
            would.put(weight, village, place);
            if (would.least(village) >= best[1]) {
                best = new int[] {place, would.least(village)};
            }
        }
        return best[what];
    }

    int pack(int force, int what) {
        if (not(force, 1, 20) || not(what, 0, 1) && not(what, 10, 13)) {
            return OUTSIDE;
        }
        if (noTable() || packs == 20) {
            return STATE;
        }
        packs++;
        State would = now.copy();
        for (int i = 0; i < would.weights.size(); i++) {
            would.put(i, NONE, NONE);
        }
        int[] best = tryFrom(would, force, 0, null);
        return best[what < 2 ? what : what - 8];
    }

    /** Every WEIGHT on the PLAIN or at every PLACE of every VILLAGE: {how many, OUNCES, bits of VILLAGE 0 to 3}. */
    private static int[] tryFrom(State would, int force, int weight, int[] bestSoFar) {
        if (weight == would.weights.size()) {
            int[] told = tell(would, force);
            return bestSoFar == null || isBetter(told, bestSoFar) ? told : bestSoFar;
        }
        would.put(weight, NONE, NONE);
        int[] best = tryFrom(would, force, weight + 1, bestSoFar);
        for (int village = 0; village < would.bases.size(); village++) {
            for (int place = 0; place < 5; place++) {
                would.put(weight, village, place);
                best = tryFrom(would, force, weight + 1, best);
            }
        }
        return best;
    }

    private static int[] tell(State would, int force) {
        int[] told = new int[6];
        for (int v = 0; v < would.bases.size(); v++) {
            told[0] += would.lifts(v, 0, force) || would.lifts(v, 1, force) ? 0 : 1;
        }
        for (int i = 0; i < would.weights.size(); i++) {
            Weight w = would.weights.get(i);
            if (w.village != NONE) {
                told[1] += w.ounces;
                told[2 + w.village] += 1 << i;
            }
        }
        return told;
    }

    private static boolean isBetter(int[] a, int[] b) {
        if (a[0] != b[0]) {
            return a[0] > b[0];
        }
        for (int i = 1; i < a.length; i++) {
            if (a[i] != b[i]) {
                return a[i] < b[i];
            }
        }
        return false;
    }

    int mend() {
        if (noTable()) {
            return STATE;
        }
        int best = NONE;
        int greatest = now.leastOfAll();
        for (int i = 0; i < now.weights.size(); i++) {
            State would = now.copy();
            Weight w = would.weights.get(i);
            w.ounces++;
            if (w.village != NONE && w.ounces <= 9 && would.leastOfAll() > greatest) {
                greatest = would.leastOfAll();
                best = i;
            }
        }
        return best;
    }

    int odds(int hours, int what) {
        if (not(hours, 1, 4) || not(what, 0, 1)) {
            return OUTSIDE;
        }
        if (noTable()) {
            return STATE;
        }
        int good = 0;
        for (int side = 0; side < 2; side++) {
            for (int force = 0; force < 10; force++) {
                boolean all = true;
                for (int v = 0; v < now.bases.size(); v++) {
                    all &= !now.lifts(v, side, force);
                }
                good += all ? 1 : 0;
            }
        }
        BigInteger above = BigInteger.valueOf(good).pow(hours);
        BigInteger below = BigInteger.valueOf(20).pow(hours);
        return (what == 0 ? above : below).divide(above.gcd(below)).intValueExact();
    }

    int see(int weight, int side, int force, boolean lifts) {
        if (noWeight(weight)) {
            return UNKNOWN;
        }
        if (not(side, 0, 1) || not(force, 0, 99)) {
            return OUTSIDE;
        }
        if (now.seen.size() == 8) {
            return FULL;
        }
        now.seen.add(new Sight(weight, side, force, lifts));
        return now.seen.size();
    }

    int forget() {
        int had = now.seen.size();
        now.seen.clear();
        return had;
    }

    int decades(int winds, int seed, int what) {
        if (not(winds, 1, 60) || seed < 0 || not(what, 0, 2)) {
            return OUTSIDE;
        }
        if (noTable()) {
            return STATE;
        }
        State would = now.copy();
        int[] draws = new int[2 * winds];
        BigInteger s = BigInteger.valueOf(seed);
        for (int i = 0; i < draws.length; i++) {
            s = s.multiply(BigInteger.valueOf(1103515245)).add(BigInteger.valueOf(12345)).mod(BigInteger.TWO.pow(31));
            draws[i] = s.intValueExact() / 65536;
        }
        for (int i = 0; i < draws.length; i += 2) {
            would.blow(draws[i] % 2, draws[i + 1] % 10);
        }
        return what == 0 ? would.lifted - now.lifted : what == 1 ? plain(would) : s.intValueExact();
    }

    private static int plain(State state) {
        return (int) state.weights.stream().filter(w -> w.village == NONE).count();
    }

    int image() {
        if (noTable()) {
            return STATE;
        }
        kept = now.copy();
        return now.winds;
    }

    int restore() {
        if (kept == null) {
            return STATE;
        }
        now = kept.copy();
        return now.winds;
    }

    int count(int what) {
        return switch (what) {
            case 0 -> now.bases.size();
            case 1 -> now.weights.size();
            case 2 -> plain(now);
            case 3 -> now.weights.stream().mapToInt(w -> w.ounces).sum();
            case 4 -> noTable() ? 0 : now.leastOfAll();
            case 5 -> now.winds;
            case 6 -> now.lifted;
            case 7 -> now.fell;
            case 8 -> now.seen.size();
            case 9 -> page.length();
            case 10 -> tables;
            case 11 -> packs;
            default -> OUTSIDE;
        };
    }

    long digest() {
        List<Integer> numbers = new ArrayList<>();
        for (int w = 0; w < count(1); w++) {
            for (int what = 0; what <= 7; what++) {
                numbers.add(weight(w, what));
            }
        }
        for (int v = 0; v < count(0); v++) {
            for (int what = 0; what <= 7; what++) {
                numbers.add(village(v, what));
            }
            for (int w = 0; w < count(1); w++) {
                numbers.add(where(w, v, 0));
                numbers.add(where(w, v, 1));
            }
        }
        if (!noTable()) {
            numbers.addAll(List.of(mend(), odds(3, 0), odds(3, 1)));
        }
        page.chars().forEach(numbers::add);
        for (int what = 0; what <= 11; what++) {
            numbers.add(count(what));
        }
        long h = 1163;
        for (int number : numbers) {
            h = h * 31 + number;
        }
        return h;
    }
}
