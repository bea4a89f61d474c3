import java.util.ArrayList;
import java.util.HashMap;
import java.util.LinkedHashSet;
import java.util.List;
import java.util.Map;
import java.util.Set;
import java.util.TreeSet;

/** The document's words done in the longest way: everything is tried, nothing is kept in mind. */
final class Oracle {
    static final class OneRule {
        int kind;
        int a;
        int b;
        int weight;
        int room = -1;
        int unless = -1;
        boolean rests;
        final Set<List<Integer>> couples = new LinkedHashSet<>();
    }

    static final class OneSlight {
        int rule;
        int x;
        int y;
        int weight;
        final List<Integer> who = new ArrayList<>();
    }

    private final List<Integer> text = new ArrayList<>();
    private int guests = 0;
    private List<Set<Integer>> marks = new ArrayList<>();
    private List<OneRule> rules = new ArrayList<>();
    private boolean[] coming = new boolean[10];
    private boolean[] sitting = new boolean[10];
    private int[] inRoom = new int[10];
    private int[] atPlace = new int[10];
    private final List<int[]> rooms = new ArrayList<>();

    // What a reading brought, until a court comes of it.
    private int readGuests;
    private List<Set<Integer>> readMarks;
    private List<OneRule> readRules;

    private final Map<Integer, List<int[]>> seatingsOf = new HashMap<>();

    int feed(int... five) {
        if (text.size() + 20 > 700) {
            return -1;
        }
        for (int number : five) {
            text.add(number >>> 24);
            text.add(number >>> 16 & 255);
            text.add(number >>> 8 & 255);
            text.add(number & 255);
        }
        return text.size();
    }

    boolean end(int n) {
        if (n < 0 || n > text.size()) {
            return false;
        }
        while (text.size() > n) {
            text.remove(text.size() - 1);
        }
        return true;
    }

    private static final Set<String> KEYS =
        Set.of("guest", "mark", "is", "above", "even", "apart", "by", "in", "unless");

    /** A machine of states over the tokens: what may stand next is told by the state alone. */
    int fault() {
        StringBuilder all = new StringBuilder();
        for (int b : text) {
            all.append((char) b);
        }
        readGuests = 0;
        readMarks = new ArrayList<>();
        readRules = new ArrayList<>();
        Map<String, Integer> names = new HashMap<>();
        String state = "line";
        OneRule rule = null;
        Set<Integer> mark = null;
        int i = 0;
        while (true) {
            while (i < all.length() && (all.charAt(i) == ' ' || all.charAt(i) == '\n')) {
                i++;
            }
            if (i == all.length()) {
                return state.equals("line") && readGuests > 0 ? -1 : i;
            }
            int start = i;
            while (i < all.length() && all.charAt(i) >= 'a' && all.charAt(i) <= 'z') {
                i++;
            }
            boolean word = i > start;
            while (!word && i < all.length() && all.charAt(i) >= '0' && all.charAt(i) <= '9') {
                i++;
            }
            boolean number = !word && i > start;
            if (!word && !number) {
                if (all.charAt(i) != ';') {
                    return start;
                }
                i++;
            }
            String token = all.substring(start, i);
            boolean name = word && token.length() <= 8 && !KEYS.contains(token);
            java.math.BigInteger value = number ? new java.math.BigInteger(token) : null;
            int means = names.getOrDefault(token, -1);
            switch (state) {
                case "line":
                    if (token.equals("guest") && readGuests < 10) {
                        state = "guest";
                    } else if (token.equals("mark") && readMarks.size() < 5) {
                        state = "mark";
                    } else if (List.of("above", "even", "apart").contains(token) && readRules.size() < 12) {
                        rule = new OneRule();
                        rule.kind = List.of("above", "even", "apart").indexOf(token);
                        state = "s1";
                    } else {
                        return start;
                    }
                    break;
                case "guest":
                    if (!name || means >= 0) {
                        return start;
                    }
                    names.put(token, readGuests++);
                    state = "stop";
                    break;
                case "mark":
                    if (!name || means >= 0) {
                        return start;
                    }
                    names.put(token, 100 + readMarks.size());
                    mark = new TreeSet<>();
                    readMarks.add(mark);
                    state = "is";
                    break;
                case "is":
                    if (!token.equals("is")) {
                        return start;
                    }
                    state = "member";
                    break;
                case "member":
                case "members":
                    if (state.equals("members") && token.equals(";")) {
                        state = "line";
                        break;
                    }
                    if (means < 0 || means >= 100 || !mark.add(means)) {
                        return start;
                    }
                    state = "members";
                    break;
                case "s1":
                    if (means < 0) {
                        return start;
                    }
                    rule.a = means;
                    state = "s2";
                    break;
                case "s2":
                    if (means < 0) {
                        return start;
                    }
                    rule.b = means;
                    state = "by";
                    break;
                case "by":
                    if (!token.equals("by")) {
                        return start;
                    }
                    state = "weight";
                    break;
                case "weight":
                    if (!number || value.signum() == 0 || value.compareTo(java.math.BigInteger.valueOf(9)) > 0) {
                        return start;
                    }
                    rule.weight = value.intValue();
                    state = "tail";
                    break;
                case "room":
                    if (!number || value.compareTo(java.math.BigInteger.valueOf(3)) > 0) {
                        return start;
                    }
                    rule.room = value.intValue();
                    state = "tail2";
                    break;
                case "butmark":
                    if (means < 100) {
                        return start;
                    }
                    rule.unless = means - 100;
                    state = "tail3";
                    break;
                case "tail":
                case "tail2":
                case "tail3":
                    if (state.equals("tail") && token.equals("in")) {
                        state = "room";
                    } else if (!state.equals("tail3") && token.equals("unless")) {
                        state = "butmark";
                    } else if (token.equals(";")) {
                        addCouples(rule);
                        readRules.add(rule);
                        state = "line";
                    } else {
                        return start;
                    }
                    break;
                case "stop":
                    if (!token.equals(";")) {
                        return start;
                    }
                    state = "line";
                    break;
                default:
                    throw new IllegalStateException(state);
            }
        }
    }

    private Set<Integer> guestsOf(int s) {
        return s >= 100 ? readMarks.get(s - 100) : Set.of(s);
    }

    private void addCouples(OneRule rule) {
        for (int x : guestsOf(rule.a)) {
            for (int y : guestsOf(rule.b)) {
                if (x == y || rule.unless >= 0 && readMarks.get(rule.unless).contains(y)) {
                    continue;
                }
                if (rule.kind == 0) {
                    rule.couples.add(List.of(x, y));
                } else {
                    rule.couples.add(List.of(Math.min(x, y), Math.max(x, y)));
                }
            }
        }
    }

    int court() {
        if (fault() != -1) {
            return -1;
        }
        guests = readGuests;
        marks = readMarks;
        rules = readRules;
        for (int g = 0; g < 10; g++) {
            coming[g] = g < guests;
            sitting[g] = false;
            inRoom[g] = -1;
            atPlace[g] = -1;
        }
        text.clear();
        seatingsOf.clear();
        return guests;
    }

    int room(int kind, int places) {
        if (kind < 0 || kind > 4 || places < 1 || places > 10 || rooms.size() == 4) {
            return -1;
        }
        rooms.add(new int[] {kind, places});
        return rooms.size() - 1;
    }

    private boolean isGuest(int g) {
        return g >= 0 && g < guests;
    }

    private boolean isRoom(int r) {
        return r >= 0 && r < rooms.size();
    }

    private boolean isPlace(int r, int p) {
        return isRoom(r) && p >= 0 && p < rooms.get(r)[1];
    }

    int guest(int g, int what) {
        if (!isGuest(g)) {
            return -1;
        }
        int bits = 0;
        for (int m = 0; m < marks.size(); m++) {
            bits += marks.get(m).contains(g) ? 1 << m : 0;
        }
        int[] all = {coming[g] ? 1 : 0, bits, inRoom[g], atPlace[g], sitting[g] ? 1 : 0};
        return what < 0 || what >= all.length ? -1 : all[what];
    }

    int rule(int r, int what) {
        if (r < 0 || r >= rules.size()) {
            return -1;
        }
        OneRule o = rules.get(r);
        int[] all = {o.kind, o.a, o.b, o.weight, o.room, o.unless, o.couples.size(), o.rests ? 1 : 0};
        return what < 0 || what >= all.length ? -1 : all[what];
    }

    boolean rest(int r, boolean rests) {
        if (r < 0 || r >= rules.size() || rules.get(r).rests == rests) {
            return false;
        }
        rules.get(r).rests = rests;
        seatingsOf.clear();
        return true;
    }

    boolean comes(int g, boolean comes) {
        if (!isGuest(g) || coming[g] == comes) {
            return false;
        }
        coming[g] = comes;
        sitting[g] = false;
        inRoom[g] = -1;
        atPlace[g] = -1;
        seatingsOf.clear();
        return true;
    }

    boolean seat(int g, int r, int p) {
        if (!isGuest(g) || !coming[g] || !isPlace(r, p) || sitting[g]) {
            return false;
        }
        for (int o = 0; o < guests; o++) {
            if (inRoom[o] == r && atPlace[o] == p) {
                return false;
            }
        }
        inRoom[g] = r;
        atPlace[g] = p;
        return true;
    }

    boolean leave(int g) {
        if (!isGuest(g) || inRoom[g] < 0 || sitting[g]) {
            return false;
        }
        inRoom[g] = -1;
        atPlace[g] = -1;
        return true;
    }

    boolean sits(int g, boolean sits) {
        if (!isGuest(g) || inRoom[g] < 0 || sitting[g] == sits) {
            return false;
        }
        sitting[g] = sits;
        return true;
    }

    int higher(int r, int c, int p, int q) {
        if (!isPlace(r, p) || !isPlace(r, q) || c < 0 || c > 9) {
            return -1;
        }
        if (p == q) {
            return 0;
        }
        int kind = rooms.get(r)[0];
        int n = rooms.get(r)[1];
        if (kind == 0) {
            return p < q ? 1 : 2;
        }
        if (kind == 2) {
            return -1;
        }
        if (kind == 4) {
            return (p + c) % n < (q + c) % n ? 1 : 2;
        }
        if (p / 2 == q / 2) {
            return kind == 3 ? 0 : -1;
        }
        return p / 2 < q / 2 ? 1 : 2;
    }

    private boolean beside(int r, int p, int q) {
        int n = rooms.get(r)[1];
        switch (rooms.get(r)[0]) {
            case 0:
            case 4:
                return p == q + 1 || q == p + 1;
            case 1:
                return p == q + 2 || q == p + 2;
            case 2:
                return p != q && ((p + 1) % n == q || (q + 1) % n == p);
            default:
                return p != q && higher(r, 0, p, q) == 0;
        }
    }

    private boolean counts(OneRule o, int r, List<Integer> couple) {
        return (o.room < 0 || o.room == r) && !o.rests && coming[couple.get(0)] && coming[couple.get(1)];
    }

    int source(int r, int x, int y) {
        if (!isRoom(r) || !isGuest(x) || !isGuest(y)) {
            return -1;
        }
        int best = -1;
        for (int k = 0; k < rules.size(); k++) {
            OneRule o = rules.get(k);
            List<Integer> couple = List.of(x, y);
            if (o.kind == 0 && o.couples.contains(couple) && counts(o, r, couple)
                && (best < 0 || rules.get(best).weight < o.weight)) {
                best = k;
            }
        }
        return best;
    }

    private boolean above(int r, int x, int y) {
        return source(r, x, y) >= 0;
    }

    private List<OneSlight> slightsOf(int r, int c, int[] place) {
        List<OneSlight> all = new ArrayList<>();
        for (int k = 0; k < rules.size(); k++) {
            OneRule o = rules.get(k);
            for (int x = 0; x < guests; x++) {
                for (int y = 0; y < guests; y++) {
                    List<Integer> couple = List.of(x, y);
                    if (place[x] < 0 || place[y] < 0 || !o.couples.contains(couple) || !counts(o, r, couple)) {
                        continue;
                    }
                    int h = higher(r, c, place[x], place[y]);
                    OneSlight s = new OneSlight();
                    if (o.kind == 0 && (h == 2 || h == 0)) {
                        s.who.add(x);
                    }
                    if (o.kind == 1 && h > 0) {
                        s.who.add(h == 1 ? y : x);
                    }
                    if (o.kind == 2 && beside(r, place[x], place[y])) {
                        s.who.add(x);
                        s.who.add(y);
                    }
                    if (!s.who.isEmpty()) {
                        s.rule = k;
                        s.x = x;
                        s.y = y;
                        s.weight = o.weight;
                        all.add(s);
                    }
                }
            }
        }
        return all;
    }

    private int[] hand(int r) {
        int[] place = new int[10];
        for (int g = 0; g < 10; g++) {
            place[g] = isGuest(g) && inRoom[g] == r ? atPlace[g] : -1;
        }
        return place;
    }

    private static int weigh(List<OneSlight> all) {
        return all.stream().mapToInt(s -> s.weight).sum();
    }

    private static int heaviest(List<OneSlight> all) {
        return all.stream().mapToInt(s -> s.weight).max().orElse(0);
    }

    private static int mindOf(List<OneSlight> all, int g) {
        return all.stream().filter(s -> s.who.contains(g)).mapToInt(s -> s.weight).sum();
    }

    int slights(int r, int c, int what) {
        if (!isRoom(r) || c < 0 || c > 9 || what < 0 || what > 2) {
            return -1;
        }
        List<OneSlight> all = slightsOf(r, c, hand(r));
        return what == 0 ? weigh(all) : what == 1 ? all.size() : heaviest(all);
    }

    int slight(int r, int c, int k, int what) {
        if (!isRoom(r) || c < 0 || c > 9 || what < 0 || what > 3) {
            return -1;
        }
        List<OneSlight> all = slightsOf(r, c, hand(r));
        if (k < 0 || k >= all.size()) {
            return -1;
        }
        OneSlight s = all.get(k);
        int say = rules.get(s.rule).kind == 0 ? source(r, s.y, s.x) : -1;
        return new int[] {s.rule, s.x, s.y, say}[what];
    }

    int minds(int r, int c, int g) {
        if (!isRoom(r) || c < 0 || c > 9 || g != -1 && !isGuest(g)) {
            return -1;
        }
        List<OneSlight> all = slightsOf(r, c, hand(r));
        if (g >= 0) {
            return mindOf(all, g);
        }
        int who = -1;
        for (int o = guests - 1; o >= 0; o--) {
            if (mindOf(all, o) > 0 && (who < 0 || mindOf(all, o) >= mindOf(all, who))) {
                who = o;
            }
        }
        return who;
    }

    private boolean ringFrom(int r, List<Integer> row, int length) {
        if (row.size() == length) {
            return above(r, row.get(length - 1), row.get(0));
        }
        for (int g = 0; g < guests; g++) {
            if (!row.contains(g) && (row.isEmpty() || above(r, row.get(row.size() - 1), g))) {
                row.add(g);
                if (ringFrom(r, row, length)) {
                    return true;
                }
                row.remove(row.size() - 1);
            }
        }
        return false;
    }

    int ring(int r, int k) {
        if (!isRoom(r)) {
            return -1;
        }
        for (int length = 2; length <= guests; length++) {
            List<Integer> row = new ArrayList<>();
            if (ringFrom(r, row, length)) {
                return k == -1 ? length : k >= 0 && k < length ? row.get(k) : -1;
            }
        }
        return -1;
    }

    int quarrels(int r) {
        if (!isRoom(r)) {
            return -1;
        }
        int n = 0;
        for (int x = 0; x < guests; x++) {
            for (int y = 0; y < x; y++) {
                n += above(r, x, y) && above(r, y, x) ? 1 : 0;
            }
        }
        return n;
    }

    /** Whether guests of a heap stand in a ring, by the closure of who is above whom. */
    private boolean ringWithin(boolean[][] above, List<Integer> heap) {
        boolean[][] reach = new boolean[10][10];
        for (int x : heap) {
            for (int y : heap) {
                reach[x][y] = above[x][y];
            }
        }
        for (int m : heap) {
            for (int x : heap) {
                for (int y : heap) {
                    reach[x][y] |= reach[x][m] && reach[m][y];
                }
            }
        }
        for (int x : heap) {
            if (reach[x][x]) {
                return true;
            }
        }
        return false;
    }

    private List<Integer> all() {
        List<Integer> all = new ArrayList<>();
        for (int g = 0; g < guests; g++) {
            if (coming[g]) {
                all.add(g);
            }
        }
        return all;
    }

    private boolean[][] matrix(int r, int kind, int without) {
        boolean[][] m = new boolean[10][10];
        for (int k = 0; k < rules.size(); k++) {
            OneRule o = rules.get(k);
            for (List<Integer> c : o.couples) {
                if (o.kind == kind && counts(o, r, c) && (without >> k & 1) == 0) {
                    m[c.get(0)][c.get(1)] = true;
                    if (kind == 1) {
                        m[c.get(1)][c.get(0)] = true;
                    }
                }
            }
        }
        return m;
    }

    int toRest(int r, int what) {
        if (!isRoom(r) || what < 0 || what > 1) {
            return -1;
        }
        int[] best = null;
        for (int bits = 0; bits < 1 << rules.size(); bits++) {
            int weight = 0;
            boolean can = true;
            for (int k = 0; k < rules.size(); k++) {
                if ((bits >> k & 1) != 0) {
                    OneRule o = rules.get(k);
                    weight += o.weight;
                    can &= o.kind == 0 && !o.rests && (o.room < 0 || o.room == r);
                }
            }
            int[] now = {weight, Integer.bitCount(bits), bits};
            if (can && (best == null || java.util.Arrays.compare(now, best) < 0)
                && !ringWithin(matrix(r, 0, bits), all())) {
                best = now;
            }
        }
        return what == 0 ? best[2] : best[0];
    }

    int order(int r, int k) {
        if (!isRoom(r) || ring(r, -1) != -1) {
            return -1;
        }
        List<Integer> left = all();
        List<Integer> row = new ArrayList<>();
        while (!left.isEmpty()) {
            for (Integer g : left) {
                boolean may = true;
                for (int o : left) {
                    may &= !above(r, o, g);
                }
                if (may) {
                    row.add(g);
                    left.remove(g);
                    break;
                }
            }
        }
        return k >= 0 && k < row.size() ? row.get(k) : -1;
    }

    private boolean roundsFit(boolean[][] above, boolean[][] even, int doors, int rounds, int g, int[] round) {
        if (g == 10) {
            return true;
        }
        if (g >= guests || !coming[g]) {
            return roundsFit(above, even, doors, rounds, g + 1, round);
        }
        for (int k = 0; k < rounds; k++) {
            int inIt = 1;
            boolean fits = true;
            for (int o = 0; o < g; o++) {
                if (!coming[o]) {
                    continue;
                }
                inIt += round[o] == k ? 1 : 0;
                fits &= !above[g][o] || k < round[o];
                fits &= !above[o][g] || round[o] < k;
                fits &= !even[o][g] || round[o] == k;
            }
            if (fits && inIt <= doors) {
                round[g] = k;
                if (roundsFit(above, even, doors, rounds, g + 1, round)) {
                    return true;
                }
            }
        }
        return false;
    }

    int rounds(int r, int doors) {
        if (!isRoom(r) || doors < 1 || doors > 4) {
            return -1;
        }
        boolean[][] above = matrix(r, 0, 0);
        if (ringWithin(above, all())) {
            return -1;
        }
        for (int rounds = 0; rounds <= 10; rounds++) {
            if (roundsFit(above, matrix(r, 1, 0), doors, rounds, 0, new int[10])) {
                return rounds;
            }
        }
        return -1;
    }

    private int[] bestParts;
    private int bestNumber;

    private void part(boolean[][] above, boolean[][] even, List<Integer> all, int i, int used, int[] heap) {
        if (used >= bestNumber) {
            return;
        }
        if (i == all.size()) {
            for (int h = 0; h < used; h++) {
                List<Integer> in = new ArrayList<>();
                for (int g : all) {
                    if (heap[g] == h) {
                        in.add(g);
                    }
                }
                for (int x : in) {
                    for (int y : in) {
                        if (even[x][y] && above[x][y]) {
                            return;
                        }
                    }
                }
                if (ringWithin(above, in)) {
                    return;
                }
            }
            bestNumber = used;
            bestParts = heap.clone();
            return;
        }
        for (int h = 0; h <= used; h++) {
            heap[all.get(i)] = h;
            part(above, even, all, i + 1, Math.max(used, h + 1), heap);
        }
    }

    int few(int r, int g) {
        if (!isRoom(r) || g != -1 && (!isGuest(g) || !coming[g])) {
            return -1;
        }
        bestNumber = 11;
        part(matrix(r, 0, 0), matrix(r, 1, 0), all(), 0, 0, new int[10]);
        if (g == -1) {
            return bestNumber;
        }
        for (int o : all()) {
            if (bestParts[o] == bestParts[g]) {
                return o;
            }
        }
        throw new IllegalStateException();
    }

    private boolean askable(int r) {
        return isRoom(r) && rooms.get(r)[1] <= 8 && all().size() <= 7 && all().size() <= rooms.get(r)[1];
    }

    private void fill(int r, List<Integer> all, int i, int[] place, List<int[]> found) {
        if (i == all.size()) {
            List<OneSlight> slights = slightsOf(r, 0, place);
            int[] one = java.util.Arrays.copyOf(place, 12);
            one[10] = weigh(slights);
            one[11] = heaviest(slights);
            found.add(one);
            return;
        }
        for (int p = 0; p < rooms.get(r)[1]; p++) {
            boolean taken = false;
            for (int o = 0; o < i; o++) {
                taken |= place[all.get(o)] == p;
            }
            if (!taken) {
                place[all.get(i)] = p;
                fill(r, all, i + 1, place, found);
                place[all.get(i)] = -1;
            }
        }
    }

    /** All seatings in their order, each with its weight (10) and its heaviest slight (11). */
    private List<int[]> seatings(int r) {
        List<int[]> found = seatingsOf.get(r);
        if (found == null) {
            found = new ArrayList<>();
            int[] place = new int[10];
            java.util.Arrays.fill(place, -1);
            fill(r, all(), 0, place, found);
            seatingsOf.put(r, found);
        }
        return found;
    }

    private List<int[]> least(int r) {
        int weight = seatings(r).stream().mapToInt(s -> s[10]).min().getAsInt();
        List<int[]> found = new ArrayList<>();
        for (int[] s : seatings(r)) {
            if (s[10] == weight) {
                found.add(s);
            }
        }
        return found;
    }

    private int[] mildest(int r) {
        int[] best = null;
        for (int[] s : seatings(r)) {
            if (best == null || s[11] < best[11] || s[11] == best[11] && s[10] < best[10]) {
                best = s;
            }
        }
        return best;
    }

    int least(int r, int what) {
        if (!askable(r) || what < 0 || what > 3) {
            return -1;
        }
        switch (what) {
            case 0:
                return least(r).get(0)[10];
            case 1:
                return least(r).size();
            case 2:
                return mildest(r)[10];
            default:
                return mildest(r)[11];
        }
    }

    int best(int r, int g, boolean mild) {
        if (!askable(r) || !isGuest(g) || !coming[g]) {
            return -1;
        }
        return mild ? mildest(r)[g] : least(r).get(0)[g];
    }

    int must(int r, int g) {
        if (!askable(r) || !isGuest(g) || !coming[g]) {
            return -1;
        }
        int place = least(r).get(0)[g];
        for (int[] s : least(r)) {
            if (s[g] != place) {
                return -1;
            }
        }
        return place;
    }

    int free(int r, int p) {
        if (!askable(r) || !isPlace(r, p)) {
            return -1;
        }
        Set<Integer> who = new TreeSet<>();
        for (int[] s : least(r)) {
            for (int g : all()) {
                if (s[g] == p) {
                    who.add(g);
                }
            }
        }
        return who.size();
    }

    int mended(int r, int limit, int g) {
        if (!askable(r) || g != -1 && (!isGuest(g) || !coming[g])) {
            return -1;
        }
        int[] best = null;
        int fewest = 100;
        for (int[] s : seatings(r)) {
            int moved = 0;
            boolean stays = true;
            for (int o : all()) {
                if (inRoom[o] == r && atPlace[o] != s[o]) {
                    moved++;
                    stays &= !sitting[o];
                }
            }
            if (stays && s[10] <= limit && moved < fewest) {
                fewest = moved;
                best = s;
            }
        }
        return best == null ? -1 : g == -1 ? fewest : best[g];
    }

    int evened(int r, int courses, int k) {
        if (!isRoom(r) || rooms.get(r)[0] != 4 || rooms.get(r)[1] > 8 || courses < 1 || courses > 3) {
            return -1;
        }
        if (k < -1 || k >= courses) {
            return -1;
        }
        int n = rooms.get(r)[1];
        int[][] minds = new int[n][10];
        for (int s = 0; s < n; s++) {
            int[] place = hand(r);
            for (int g = 0; g < 10; g++) {
                place[g] = place[g] < 0 ? -1 : (place[g] + s) % n;
            }
            List<OneSlight> slights = slightsOf(r, 0, place);
            for (int g = 0; g < guests; g++) {
                minds[s][g] = mindOf(slights, g);
            }
        }
        int[] best = null;
        int least = Integer.MAX_VALUE;
        for (int a = 0; a < n; a++) {
            for (int b = 0; b < (courses > 1 ? n : 1); b++) {
                for (int c = 0; c < (courses > 2 ? n : 1); c++) {
                    int most = 0;
                    for (int g = 0; g < 10; g++) {
                        int sum = minds[a][g] + (courses > 1 ? minds[b][g] : 0) + (courses > 2 ? minds[c][g] : 0);
                        most = Math.max(most, sum);
                    }
                    if (most < least) {
                        least = most;
                        best = new int[] {a, b, c};
                    }
                }
            }
        }
        return k == -1 ? least : best[k];
    }

    int count(int what) {
        int seated = 0;
        int sit = 0;
        int rest = 0;
        for (int g = 0; g < guests; g++) {
            seated += inRoom[g] >= 0 ? 1 : 0;
            sit += sitting[g] ? 1 : 0;
        }
        for (OneRule o : rules) {
            rest += o.rests ? 1 : 0;
        }
        int[] all = {guests, marks.size(), rules.size(), rooms.size(), text.size(), all().size(), seated, sit, rest};
        return what < 0 || what >= all.length ? -1 : all[what];
    }
}
