import java.util.Arrays;

/**
 * Who goes in first: guests, rules of rank that quarrel, rooms whose places differ in
 * height, and what follows from them: slights, rings of rank, orders and seatings.
 *
 * All rows are made in the constructors and used again, so that no call makes an object.
 */
public final class FirstIn {
    /** There is none. */
    public static final int NONE = -1;

    private static final int MOST_BYTES = 700;
    private static final int BYTES_FED = 20;
    private static final int MOST_GUESTS = 10;
    private static final int MOST_MARKS = 5;
    private static final int MOST_RULES = 12;
    private static final int MOST_ROOMS = 4;
    private static final int MOST_PLACES = 10;
    private static final int MOST_COURSES = 10;
    private static final int MOST_DOORS = 4;
    private static final int MOST_WEIGHT = 9;
    private static final int GUEST_SETS = 1 << MOST_GUESTS;

    // A mark that stands for its guests has its number behind this one.
    private static final int MARK_BASE = 100;

    // Kinds of rules.
    private static final int ABOVE = 0;
    private static final int EVEN = 1;
    private static final int APART = 2;

    // Kinds of rooms.
    private static final int ROW = 0;
    private static final int TABLE = 1;
    private static final int RING = 2;
    private static final int DOOR = 3;
    private static final int TURN = 4;

    // Which of two places is higher.
    private static final int LEVEL = 0;
    private static final int FIRST = 1;
    private static final int SECOND = 2;

    // More guests or places than these, and seatings can't be asked for.
    private static final int SEATED_GUESTS = 7;
    private static final int SEATED_PLACES = 8;

    // What is sought among all seatings.
    private static final int LEAST = 0;
    private static final int MILDEST = 1;
    private static final int MENDED = 2;

    // A turn is evened over so many courses at most.
    private static final int EVENED_COURSES = 3;

    private final Text text;
    private final Reader reader;
    private final Room[] rooms;
    private final Rank rank;
    private final Slights told;
    private final Evening evening;
    private final Search search;
    private Court court;
    private Court draft;
    private int roomCount;

    public FirstIn() {
        text = new Text();
        reader = new Reader(text);
        rooms = new Room[MOST_ROOMS];
        for (int k = 0; k < rooms.length; k++) {
            rooms[k] = new Room(k);
        }
        rank = new Rank();
        told = new Slights();
        evening = new Evening();
        search = new Search();
        court = new Court();
        draft = new Court();
        roomCount = 0;
    }

    public int feed(int a, int b, int c, int d, int e) {
        if (text.length > MOST_BYTES - BYTES_FED) {
            return NONE;
        }
        text.append(a);
        text.append(b);
        text.append(c);
        text.append(d);
        text.append(e);
        return text.length;
    }

    public boolean end(int n) {
        return text.cutTo(n);
    }

    public int fault() {
        return reader.readInto(draft);
    }

    public int court() {
        if (reader.readInto(draft) != NONE) {
            return NONE;
        }
        Court ahead = court;
        court = draft;
        draft = ahead;
        court.open(ahead);
        text.cutTo(0);
        return court.guests;
    }

    public int room(int kind, int places) {
        boolean can = kind >= ROW && kind <= TURN && places >= 1 && places <= MOST_PLACES;
        if (!can || roomCount < 0 || roomCount >= rooms.length) {
            return NONE;
        }
        rooms[roomCount].furnish(kind, places);
        roomCount++;
        return roomCount - 1;
    }

    public int guest(int guest, int what) {
        if (!court.hasGuest(guest)) {
            return NONE;
        }
        switch (what) {
            case 0: return bitAt(court.coming, guest);
            case 1: return court.marksOf(guest);
            case 2: return court.roomOf[guest];
            case 3: return court.placeOf[guest];
            case 4: return bitAt(court.sitting, guest);
            default: return NONE;
        }
    }

    public int rule(int rule, int what) {
        return court.hasRule(rule) ? court.rules[rule].tell(what) : NONE;
    }

    public boolean rest(int rule, boolean rests) {
        return court.letRest(rule, rests);
    }

    public boolean comes(int guest, boolean comes) {
        return court.letCome(guest, comes);
    }

    public boolean seat(int guest, int room, int place) {
        Room in = roomOrNull(room);
        if (in == null || !in.hasPlace(place) || !court.isComing(guest)) {
            return false;
        }
        if (has(court.sitting, guest) || court.isTaken(room, place)) {
            return false;
        }
        court.put(guest, room, place);
        return true;
    }

    public boolean leave(int guest) {
        if (!court.isSeated(guest) || has(court.sitting, guest)) {
            return false;
        }
        court.put(guest, NONE, NONE);
        return true;
    }

    public boolean sits(int guest, boolean sits) {
        return court.letSit(guest, sits);
    }

    public int higher(int room, int course, int one, int other) {
        Room in = roomOrNull(room);
        if (in == null || !isCourse(course) || !in.hasPlace(one) || !in.hasPlace(other)) {
            return NONE;
        }
        return in.higherOf(course, one, other);
    }

    public int source(int room, int guest, int other) {
        return roomOrNull(room) == null ? NONE : court.sourceOf(room, guest, other);
    }

    public int slights(int room, int course, int what) {
        if (!tellByHand(room, course, NONE)) {
            return NONE;
        }
        switch (what) {
            case 0: return told.weight;
            case 1: return told.number;
            case 2: return told.heaviest;
            default: return NONE;
        }
    }

    public int slight(int room, int course, int k, int what) {
        if (k < 0 || !tellByHand(room, course, k) || told.rule == NONE) {
            return NONE;
        }
        switch (what) {
            case 0: return told.rule;
            case 1: return told.x;
            case 2: return told.y;
            case 3: return court.toSay(told.rule, room, told.x, told.y);
            default: return NONE;
        }
    }

    public int minds(int room, int course, int guest) {
        if (guest != NONE && !court.hasGuest(guest)) {
            return NONE;
        }
        if (!tellByHand(room, course, NONE)) {
            return NONE;
        }
        return guest == NONE ? told.whoMindsMost() : told.minded[guest];
    }

    public int ring(int room, int k) {
        if (!lookAtRank(room)) {
            return NONE;
        }
        int guests = rank.shortestRing();
        if (guests == NONE || k == NONE) {
            return guests;
        }
        return k >= 0 && k < guests && k < MOST_GUESTS ? rank.row[k] : NONE;
    }

    public int quarrels(int room) {
        return lookAtRank(room) ? rank.bothWays() : NONE;
    }

    public int toRest(int room, int what) {
        Room in = roomOrNull(room);
        if (in == null || what < 0 || what > 1) {
            return NONE;
        }
        if (in.restKnownAt != court.rankChanges) {
            in.restBits = rank.lightestToRest(court, room);
            in.restKnownAt = court.rankChanges;
        }
        return what == 0 ? in.restBits : court.weightOf(in.restBits);
    }

    public int order(int room, int k) {
        if (!lookAtRank(room)) {
            return NONE;
        }
        int guests = rank.orderThrough();
        return k >= 0 && k < guests && k < MOST_GUESTS ? rank.row[k] : NONE;
    }

    public int rounds(int room, int doors) {
        if (doors < 1 || doors > MOST_DOORS || !lookAtRank(room)) {
            return NONE;
        }
        return rank.fewestRounds(doors);
    }

    public int few(int room, int guest) {
        if (guest != NONE && !court.isComing(guest)) {
            return NONE;
        }
        if (!lookAtRank(room)) {
            return NONE;
        }
        int heaps = rank.fewestHeaps();
        return guest == NONE ? heaps : rank.leastBeside(guest);
    }

    public int least(int room, int what) {
        Found found = seatings(room, what == 0 || what == 1 ? LEAST : MILDEST, 0);
        if (found == null) {
            return NONE;
        }
        switch (what) {
            case 0: return found.weight;
            case 1: return found.number;
            case 2: return found.weight;
            case 3: return found.heaviest;
            default: return NONE;
        }
    }

    public int best(int room, int guest, boolean mild) {
        if (!court.isComing(guest)) {
            return NONE;
        }
        Found found = seatings(room, mild ? MILDEST : LEAST, 0);
        return found == null ? NONE : found.place[guest];
    }

    public int must(int room, int guest) {
        if (!court.isComing(guest)) {
            return NONE;
        }
        Found found = seatings(room, LEAST, 0);
        if (found == null || Integer.bitCount(found.ever[guest]) != 1) {
            return NONE;
        }
        return found.place[guest];
    }

    public int free(int room, int place) {
        Room in = roomOrNull(room);
        if (in == null || !in.hasPlace(place)) {
            return NONE;
        }
        Found found = seatings(room, LEAST, 0);
        return found == null ? NONE : found.howManyAt(place);
    }

    public int mended(int room, int limit, int guest) {
        if (guest != NONE && !court.isComing(guest)) {
            return NONE;
        }
        Found found = seatings(room, MENDED, limit);
        if (found == null || !found.any) {
            return NONE;
        }
        return guest == NONE ? found.moved : found.place[guest];
    }

    public int evened(int room, int courses, int k) {
        Room in = roomOrNull(room);
        if (in == null || in.kind != TURN || in.places > SEATED_PLACES) {
            return NONE;
        }
        if (courses < 1 || courses > EVENED_COURSES || k < NONE || k >= courses) {
            return NONE;
        }
        evening.seek(court, in, courses, told);
        return k == NONE ? evening.greatest : evening.row[k];
    }

    public int count(int what) {
        switch (what) {
            case 0: return court.guests;
            case 1: return court.marks;
            case 2: return court.ruleCount;
            case 3: return roomCount;
            case 4: return text.length;
            case 5: return Integer.bitCount(court.coming);
            case 6: return court.seatedAnywhere();
            case 7: return Integer.bitCount(court.sitting);
            case 8: return court.resting();
            default: return NONE;
        }
    }

    private Room roomOrNull(int room) {
        boolean there = room >= 0 && room < roomCount && room < rooms.length;
        return there ? rooms[room] : null;
    }

    private boolean tellByHand(int room, int course, int sought) {
        Room in = roomOrNull(room);
        if (in == null || !isCourse(course)) {
            return false;
        }
        told.seatByHand(court, in, 0);
        told.tellAll(court, in, course, sought);
        return true;
    }

    private boolean lookAtRank(int room) {
        if (roomOrNull(room) == null) {
            return false;
        }
        rank.look(court, room, 0);
        return true;
    }

    /** What was found among all seatings in a room, sought anew only if something changed; null if it can't be asked. */
    private Found seatings(int room, int goal, int limit) {
        Room in = roomOrNull(room);
        if (in == null || !in.canSeat(Integer.bitCount(court.coming))) {
            return null;
        }
        Found found = in.foundFor(goal);
        int change = goal == MENDED ? court.changes : court.rankChanges;
        if (found.knownAt != change || found.limit != limit) {
            found.forget(change, limit);
            search.seek(court, in, goal, found);
        }
        return found;
    }

    private static boolean isCourse(int course) {
        return course >= 0 && course < MOST_COURSES;
    }

    private static boolean has(int bits, int k) {
        return (bits >> k & 1) != 0;
    }

    private static int bitAt(int bits, int k) {
        return bits >> k & 1;
    }

    /** The number of the lowest bit; 32 if there is none. */
    private static int lowest(int bits) {
        return Integer.bitCount((bits & -bits) - 1);
    }

    /** Whether a couple (x, y) of a rule is slighted by how x's place lies to y's. */
    private static boolean isSlight(int kind, int higher, boolean beside) {
        switch (kind) {
            case ABOVE: return higher == SECOND || higher == LEVEL;
            case EVEN: return higher == FIRST || higher == SECOND;
            case APART: return beside;
            default: return false;
        }
    }

    /** The bytes that were fed, and the tokens in them, one at a time. */
    private static final class Text {
        // Kinds of tokens; a strange one is a byte that begins none.
        static final int END = 0;
        static final int WORD = 1;
        static final int NUMBER = 2;
        static final int STOP = 3;
        static final int STRANGE = 4;
        // Letters count 1 .. 26, so that no two words of at most 8 letters have one code.
        static final int LETTER_BASE = 32;
        // Above the codes of those words, and above every number that can stand in a text.
        static final long HUGE = 1L << 40;

        final byte[] bytes = new byte[MOST_BYTES];
        int length = 0;
        int kind = END;
        int from = 0;
        int to = 0;
        // A word's code or a number's value; HUGE if it would be more.
        long code = 0;

        void append(int number) {
            for (int shift = 24; shift >= 0; shift -= 8) {
                if (length >= 0 && length < bytes.length) {
                    bytes[length] = (byte) (number >> shift);
                    length++;
                }
            }
        }

        boolean cutTo(int n) {
            if (n < 0 || n > length) {
                return false;
            }
            length = n;
            return true;
        }

        void begin() {
            to = 0;
            advance();
        }

        void advance() {
            from = to;
            while (from < length && (signAt(from) == 32 || signAt(from) == 10)) {
                from++;
            }
            to = from;
            code = 0;
            int sign = signAt(from);
            if (from >= length) {
                kind = END;
            } else if (sign >= 'a' && sign <= 'z') {
                kind = WORD;
                takeRun('a', 'z', LETTER_BASE);
            } else if (sign >= '0' && sign <= '9') {
                kind = NUMBER;
                takeRun('0', '9', 10);
            } else {
                kind = sign == ';' ? STOP : STRANGE;
                to = from + 1;
            }
        }

        void takeRun(int low, int high, int base) {
            int zero = base == LETTER_BASE ? low - 1 : low;
            while (to < length && to < bytes.length && bytes[to] >= low && bytes[to] <= high) {
                code = code * base + bytes[to] - zero;
                code = code < HUGE ? code : HUGE;
                to++;
            }
        }

        /** Bytes of 128 and more are below 0, as is what lies beyond the end: no sign of a token. */
        int signAt(int place) {
            return place >= 0 && place < length && place < bytes.length ? bytes[place] : NONE;
        }

        boolean isWord(long wordCode) {
            return kind == WORD && code == wordCode;
        }

        boolean isNumber(int low, int high) {
            return kind == NUMBER && code >= low && code <= high;
        }

        static long codeOf(String word) {
            long code = 0;
            for (int k = 0; k < word.length(); k++) {
                code = code * LETTER_BASE + word.charAt(k) - ('a' - 1);
            }
            return code;
        }
    }

    /** Reads a court; where a reading method answers false, the fault is at the token that stands there. */
    private static final class Reader {
        static final int MOST_NAMES = MOST_GUESTS + MOST_MARKS;

        final Text text;
        final long guestWord = Text.codeOf("guest");
        final long markWord = Text.codeOf("mark");
        final long isWord = Text.codeOf("is");
        final long aboveWord = Text.codeOf("above");
        final long evenWord = Text.codeOf("even");
        final long apartWord = Text.codeOf("apart");
        final long byWord = Text.codeOf("by");
        final long inWord = Text.codeOf("in");
        final long unlessWord = Text.codeOf("unless");
        final long[] nameCodes = new long[MOST_NAMES];
        final int[] nameMeans = new int[MOST_NAMES];
        int names = 0;

        Reader(Text text) {
            this.text = text;
        }

        /** The fault of the text; without one (NONE) the court is written. */
        int readInto(Court court) {
            names = 0;
            court.empty();
            text.begin();
            for (int line = 0; line < MOST_BYTES && text.kind != Text.END; line++) {
                if (!readLine(court)) {
                    return text.from;
                }
            }
            return court.guests == 0 ? text.from : NONE;
        }

        boolean readLine(Court court) {
            if (text.isWord(guestWord)) {
                return readGuest(court);
            }
            if (text.isWord(markWord)) {
                return readMark(court);
            }
            if (text.isWord(aboveWord)) {
                return readRule(court, ABOVE);
            }
            if (text.isWord(evenWord)) {
                return readRule(court, EVEN);
            }
            return text.isWord(apartWord) && readRule(court, APART);
        }

        boolean readGuest(Court court) {
            if (court.guests >= MOST_GUESTS) {
                return false;
            }
            text.advance();
            if (!readNewName(court.guests)) {
                return false;
            }
            court.guests++;
            return readStop();
        }

        boolean readMark(Court court) {
            if (court.marks < 0 || court.marks >= MOST_MARKS) {
                return false;
            }
            text.advance();
            if (!readNewName(MARK_BASE + court.marks) || !readWord(isWord)) {
                return false;
            }
            int bits = 0;
            // One more than there can be guests: the last one is a guest told twice, if it comes so far.
            for (int k = 0; k <= MOST_GUESTS && (k == 0 || text.kind != Text.STOP); k++) {
                int guest = meaning();
                if (guest == NONE || guest >= MOST_GUESTS || has(bits, guest)) {
                    return false;
                }
                bits |= 1 << guest;
                text.advance();
            }
            court.members[court.marks] = bits;
            court.marks++;
            return readStop();
        }

        boolean readRule(Court court, int kind) {
            if (court.ruleCount < 0 || court.ruleCount >= MOST_RULES) {
                return false;
            }
            Rule rule = court.rules[court.ruleCount];
            rule.kind = kind;
            text.advance();
            rule.first = meaning();
            if (rule.first == NONE) {
                return false;
            }
            text.advance();
            rule.second = meaning();
            if (rule.second == NONE) {
                return false;
            }
            text.advance();
            if (!readWord(byWord) || !text.isNumber(1, MOST_WEIGHT)) {
                return false;
            }
            rule.weight = (int) text.code;
            text.advance();
            if (!readRoom(rule) || !readUnless(rule)) {
                return false;
            }
            rule.pairUp(court.guestsOf(rule.first), court.guestsOf(rule.second) & ~court.guestsOf(rule.unless));
            court.ruleCount++;
            return readStop();
        }

        boolean readRoom(Rule rule) {
            rule.room = NONE;
            if (!text.isWord(inWord)) {
                return true;
            }
            text.advance();
            if (!text.isNumber(0, MOST_ROOMS - 1)) {
                return false;
            }
            rule.room = (int) text.code;
            text.advance();
            return true;
        }

        boolean readUnless(Rule rule) {
            rule.unless = NONE;
            if (!text.isWord(unlessWord)) {
                return true;
            }
            text.advance();
            int mark = meaning();
            if (mark < MARK_BASE) {
                return false;
            }
            rule.unless = mark;
            text.advance();
            return true;
        }

        boolean readStop() {
            if (text.kind != Text.STOP) {
                return false;
            }
            text.advance();
            return true;
        }

        boolean readWord(long wordCode) {
            if (!text.isWord(wordCode)) {
                return false;
            }
            text.advance();
            return true;
        }

        boolean readNewName(int means) {
            boolean can = text.kind == Text.WORD && text.code < Text.HUGE;
            if (!can || isKeyword(text.code) || meaning() != NONE || names < 0 || names >= MOST_NAMES) {
                return false;
            }
            nameCodes[names] = text.code;
            nameMeans[names] = means;
            names++;
            text.advance();
            return true;
        }

        boolean isKeyword(long code) {
            return code == guestWord || code == markWord || code == isWord
                || code == aboveWord || code == evenWord || code == apartWord
                || code == byWord || code == inWord || code == unlessWord;
        }

        /** What the token names: a guest's number, MARK_BASE and a mark's, or NONE. */
        int meaning() {
            for (int k = 0; k < names && k < MOST_NAMES; k++) {
                if (text.isWord(nameCodes[k])) {
                    return nameMeans[k];
                }
            }
            return NONE;
        }
    }

    /** A rule of rank and its couples. */
    private static final class Rule {
        int kind = ABOVE;
        int first = NONE;
        int second = NONE;
        int weight = 0;
        int room = NONE;
        int unless = NONE;
        boolean rests = false;
        // For each x the bits of its y; of even and apart x is the lesser one.
        final int[] couples = new int[MOST_GUESTS];

        void pairUp(int firsts, int seconds) {
            Arrays.fill(couples, 0);
            for (int x = 0; x < MOST_GUESTS; x++) {
                for (int y = 0; y < MOST_GUESTS; y++) {
                    if (x != y && has(firsts, x) && has(seconds, y)) {
                        boolean turned = kind != ABOVE && y < x;
                        couples[turned ? y : x] |= 1 << (turned ? x : y);
                    }
                }
            }
        }

        int howManyCouples() {
            int number = 0;
            for (int x = 0; x < MOST_GUESTS; x++) {
                number += Integer.bitCount(couples[x]);
            }
            return number;
        }

        boolean hasCoupleOf(int guests) {
            for (int x = 0; x < MOST_GUESTS; x++) {
                if (has(guests, x) && (couples[x] & guests) != 0) {
                    return true;
                }
            }
            return false;
        }

        boolean countsIn(int number) {
            return !rests && (room == NONE || room == number);
        }

        int tell(int what) {
            switch (what) {
                case 0: return kind;
                case 1: return first;
                case 2: return second;
                case 3: return weight;
                case 4: return room;
                case 5: return unless == NONE ? NONE : unless - MARK_BASE;
                case 6: return howManyCouples();
                case 7: return rests ? 1 : 0;
                default: return NONE;
            }
        }
    }

    /** Guests, marks and rules, who comes and who is seated where by hand. */
    private static final class Court {
        final int[] members = new int[MOST_MARKS];
        final Rule[] rules = new Rule[MOST_RULES];
        final int[] roomOf = new int[MOST_GUESTS];
        final int[] placeOf = new int[MOST_GUESTS];
        int guests = 0;
        int marks = 0;
        int ruleCount = 0;
        int coming = 0;
        int sitting = 0;
        // What was found out holds while these stay: of rules and who comes, and of seats too.
        int rankChanges = 0;
        int changes = 0;

        Court() {
            for (int k = 0; k < rules.length; k++) {
                rules[k] = new Rule();
            }
        }

        void empty() {
            guests = 0;
            marks = 0;
            ruleCount = 0;
        }

        /** All come and none is seated; what was found out of the court ahead holds no more. */
        void open(Court ahead) {
            coming = (1 << guests) - 1;
            sitting = 0;
            Arrays.fill(roomOf, NONE);
            Arrays.fill(placeOf, NONE);
            for (int k = 0; k < rules.length; k++) {
                rules[k].rests = false;
            }
            rankChanges = ahead.rankChanges + 1;
            changes = ahead.changes + 1;
        }

        boolean hasGuest(int guest) {
            return guest >= 0 && guest < guests && guest < MOST_GUESTS;
        }

        boolean isComing(int guest) {
            return hasGuest(guest) && has(coming, guest);
        }

        boolean isSeated(int guest) {
            return hasGuest(guest) && roomOf[guest] != NONE;
        }

        boolean hasRule(int rule) {
            return rule >= 0 && rule < ruleCount && rule < MOST_RULES;
        }

        /** The guests that a guest's number, or MARK_BASE and a mark's, stand for, as bits. */
        int guestsOf(int name) {
            int mark = name - MARK_BASE;
            if (mark >= 0) {
                return mark < marks && mark < MOST_MARKS ? members[mark] : 0;
            }
            return hasGuest(name) ? 1 << name : 0;
        }

        int marksOf(int guest) {
            int bits = 0;
            for (int mark = 0; mark < marks && mark < MOST_MARKS; mark++) {
                if (has(members[mark], guest)) {
                    bits |= 1 << mark;
                }
            }
            return bits;
        }

        boolean letRest(int rule, boolean rests) {
            if (!hasRule(rule) || rules[rule].rests == rests) {
                return false;
            }
            rules[rule].rests = rests;
            rankChanges++;
            changes++;
            return true;
        }

        boolean letCome(int guest, boolean comes) {
            if (!hasGuest(guest) || has(coming, guest) == comes) {
                return false;
            }
            coming ^= 1 << guest;
            sitting &= ~(1 << guest);
            put(guest, NONE, NONE);
            rankChanges++;
            return true;
        }

        boolean letSit(int guest, boolean sits) {
            if (!isSeated(guest) || has(sitting, guest) == sits) {
                return false;
            }
            sitting ^= 1 << guest;
            changes++;
            return true;
        }

        void put(int guest, int room, int place) {
            if (hasGuest(guest)) {
                roomOf[guest] = room;
                placeOf[guest] = place;
                changes++;
            }
        }

        boolean isTaken(int room, int place) {
            for (int guest = 0; guest < guests && guest < MOST_GUESTS; guest++) {
                if (roomOf[guest] == room && placeOf[guest] == place) {
                    return true;
                }
            }
            return false;
        }

        int seatedAnywhere() {
            int number = 0;
            for (int guest = 0; guest < guests && guest < MOST_GUESTS; guest++) {
                number += roomOf[guest] == NONE ? 0 : 1;
            }
            return number;
        }

        int resting() {
            int number = 0;
            for (int k = 0; k < ruleCount && k < MOST_RULES; k++) {
                number += rules[k].rests ? 1 : 0;
            }
            return number;
        }

        int weightOf(int ruleBits) {
            int weight = 0;
            for (int k = 0; k < ruleCount && k < MOST_RULES; k++) {
                weight += has(ruleBits, k) ? rules[k].weight : 0;
            }
            return weight;
        }

        /** The rules of above that count in a room, as bits, without those that rank nobody who comes. */
        int rankingRules(int room) {
            int bits = 0;
            for (int k = 0; k < ruleCount && k < MOST_RULES; k++) {
                Rule rule = rules[k];
                if (rule.kind == ABOVE && rule.countsIn(room) && rule.hasCoupleOf(coming)) {
                    bits |= 1 << k;
                }
            }
            return bits;
        }

        int sourceOf(int room, int guest, int other) {
            if (!isComing(guest) || !isComing(other)) {
                return NONE;
            }
            int source = NONE;
            int weight = 0;
            for (int k = 0; k < ruleCount && k < MOST_RULES; k++) {
                Rule rule = rules[k];
                boolean gives = rule.kind == ABOVE && rule.countsIn(room) && has(rule.couples[guest], other);
                if (gives && rule.weight > weight) {
                    source = k;
                    weight = rule.weight;
                }
            }
            return source;
        }

        /** What may be said of a slight (x, y) of a rule. */
        int toSay(int rule, int room, int x, int y) {
            return hasRule(rule) && rules[rule].kind == ABOVE ? sourceOf(room, y, x) : NONE;
        }
    }

    /** A room, how its places lie, and what was found out in it. */
    private static final class Room {
        final int number;
        final Found least = new Found();
        final Found mildest = new Found();
        final Found mended = new Found();
        int kind = ROW;
        int places = 1;
        int restKnownAt = NONE;
        int restBits = 0;

        Room(int number) {
            this.number = number;
        }

        void furnish(int kind, int places) {
            this.kind = kind;
            this.places = places;
        }

        boolean hasPlace(int place) {
            return place >= 0 && place < places;
        }

        boolean canSeat(int guests) {
            return guests <= SEATED_GUESTS && places <= SEATED_PLACES && guests <= places;
        }

        Found foundFor(int goal) {
            if (goal == LEAST) {
                return least;
            }
            return goal == MILDEST ? mildest : mended;
        }

        int onward(int place, int steps) {
            return places > 0 ? (place + steps) % places : place;
        }

        /** The less, the higher. */
        int depthOf(int course, int place) {
            switch (kind) {
                case ROW: return place;
                case TABLE: return place / 2;
                case DOOR: return place / 2;
                case TURN: return onward(place, course);
                default: return 0;
            }
        }

        int higherOf(int course, int one, int other) {
            if (one == other) {
                return LEVEL;
            }
            int oneDepth = depthOf(course, one);
            int otherDepth = depthOf(course, other);
            if (oneDepth != otherDepth) {
                return oneDepth < otherDepth ? FIRST : SECOND;
            }
            return kind == DOOR ? LEVEL : NONE;
        }

        boolean areBeside(int one, int other) {
            int apart = Math.abs(one - other);
            switch (kind) {
                case TABLE: return apart == 2;
                case RING: return apart == 1 || apart > 0 && apart == places - 1;
                case DOOR: return apart > 0 && one / 2 == other / 2;
                default: return apart == 1;
            }
        }
    }

    /** Who is above whom, and who is even with whom, in a room, among those who come. */
    private static final class Rank {
        // For each guest the bits of those whom it is above, and of those with whom it is even.
        final int[] above = new int[MOST_GUESTS];
        final int[] even = new int[MOST_GUESTS];
        final int[] row = new int[MOST_GUESTS];
        final int[] heaps = new int[MOST_GUESTS];
        // For the rounds: who goes in together with a guest, and who goes in ahead of these.
        final int[] together = new int[MOST_GUESTS];
        final int[] ahead = new int[MOST_GUESTS];
        final int[] roundsFor = new int[GUEST_SETS];
        int coming = 0;

        void look(Court court, int room, int without) {
            coming = court.coming;
            Arrays.fill(above, 0);
            Arrays.fill(even, 0);
            for (int k = 0; k < court.ruleCount && k < MOST_RULES; k++) {
                Rule rule = court.rules[k];
                if (!has(without, k) && rule.countsIn(room)) {
                    addCouples(rule);
                }
            }
        }

        void addCouples(Rule rule) {
            for (int x = 0; x < MOST_GUESTS; x++) {
                int others = has(coming, x) ? rule.couples[x] & coming : 0;
                if (rule.kind == ABOVE) {
                    above[x] |= others;
                } else if (rule.kind == EVEN) {
                    even[x] |= others;
                    addEvenWith(x, others);
                }
            }
        }

        void addEvenWith(int x, int others) {
            for (int y = 0; y < MOST_GUESTS; y++) {
                if (has(others, y)) {
                    even[y] |= 1 << x;
                }
            }
        }

        /** All whom one of these is above. */
        int below(int guests) {
            int bits = 0;
            for (int x = 0; x < MOST_GUESTS; x++) {
                if (has(guests, x)) {
                    bits |= above[x];
                }
            }
            return bits;
        }

        /** All who are above one of these. */
        int over(int guests) {
            int bits = 0;
            for (int x = 0; x < MOST_GUESTS; x++) {
                if ((above[x] & guests) != 0) {
                    bits |= 1 << x;
                }
            }
            return bits;
        }

        int bothWays() {
            int number = 0;
            for (int x = 0; x < MOST_GUESTS; x++) {
                for (int y = x + 1; y < MOST_GUESTS; y++) {
                    if (has(above[x], y) && has(above[y], x)) {
                        number++;
                    }
                }
            }
            return number;
        }

        /** The shortest ring comes into the row: how many guests, or NONE. */
        int shortestRing() {
            int length = NONE;
            int start = NONE;
            for (int guest = 0; guest < MOST_GUESTS; guest++) {
                int steps = stepsBackTo(guest);
                if (steps != NONE && (length == NONE || steps < length)) {
                    length = steps;
                    start = guest;
                }
            }
            if (start != NONE) {
                writeRing(start, length);
            }
            return length;
        }

        int stepsBackTo(int guest) {
            int reached = above[guest];
            for (int steps = 1; steps <= MOST_GUESTS; steps++) {
                if (has(reached, guest)) {
                    return steps;
                }
                reached = below(reached);
            }
            return NONE;
        }

        /** No ring is shorter, so a way back of this length meets nobody twice. */
        void writeRing(int start, int length) {
            row[0] = start;
            for (int k = 1; k < length && k < MOST_GUESTS; k++) {
                int back = 1 << start;
                for (int steps = k; steps < length; steps++) {
                    back = over(back);
                }
                int next = lowest(above[row[k - 1]] & back);
                row[k] = next < MOST_GUESTS ? next : start;
            }
        }

        boolean isRingless() {
            int left = coming;
            for (int k = 0; k < MOST_GUESTS && left != 0; k++) {
                int lower = left & below(left);
                if (lower == left) {
                    return false;
                }
                left = lower;
            }
            return left == 0;
        }

        /** Sets of rules rise as numbers, so that of like ones the least is kept. */
        int lightestToRest(Court court, int room) {
            int rules = court.rankingRules(room);
            int best = rules;
            int bestWeight = court.weightOf(rules);
            for (int bits = 0; bits < rules && bestWeight > 0; bits++) {
                if ((bits & ~rules) != 0) {
                    continue;
                }
                int weight = court.weightOf(bits);
                boolean fewer = Integer.bitCount(bits) < Integer.bitCount(best);
                boolean lighter = weight < bestWeight || weight == bestWeight && fewer;
                if (lighter && isRinglessWithout(court, room, bits)) {
                    best = bits;
                    bestWeight = weight;
                }
            }
            return best;
        }

        boolean isRinglessWithout(Court court, int room, int rules) {
            look(court, room, rules);
            return isRingless();
        }

        /** The order comes into the row: how many guests, or NONE if there is a ring. */
        int orderThrough() {
            int waiting = coming;
            int gone = 0;
            for (int k = 0; k < MOST_GUESTS && waiting != 0; k++) {
                int next = lowest(waiting & ~below(waiting));
                if (next >= MOST_GUESTS) {
                    return NONE;
                }
                row[k] = next;
                waiting &= ~(1 << next);
                gone++;
            }
            return gone;
        }

        /** Each group that goes in together is told by its least guest, its leader. */
        int fewestRounds(int doors) {
            int leaders = formGroups();
            Arrays.fill(roundsFor, NONE);
            roundsFor[0] = 0;
            for (int in = 0; in < leaders; in++) {
                if (in < GUEST_SETS && roundsFor[in] != NONE) {
                    goOnFrom(in, leaders, doors);
                }
            }
            return leaders >= 0 && leaders < GUEST_SETS ? roundsFor[leaders] : NONE;
        }

        int formGroups() {
            int leaders = 0;
            for (int guest = 0; guest < MOST_GUESTS; guest++) {
                together[guest] = has(coming, guest) ? hangingWith(guest) : 0;
                if (lowest(together[guest]) == guest) {
                    leaders |= 1 << guest;
                }
            }
            for (int guest = 0; guest < MOST_GUESTS; guest++) {
                ahead[guest] = leadersOf(over(together[guest]));
            }
            return leaders;
        }

        int hangingWith(int guest) {
            int group = 1 << guest;
            for (int k = 0; k < MOST_GUESTS; k++) {
                for (int x = 0; x < MOST_GUESTS; x++) {
                    if (has(group, x)) {
                        group |= even[x];
                    }
                }
            }
            return group;
        }

        int leadersOf(int guests) {
            int bits = 0;
            for (int x = 0; x < MOST_GUESTS; x++) {
                if (has(guests, x)) {
                    bits |= together[x] & -together[x];
                }
            }
            return bits;
        }

        void goOnFrom(int in, int leaders, int doors) {
            int open = 0;
            for (int guest = 0; guest < MOST_GUESTS; guest++) {
                if (has(leaders & ~in, guest) && (ahead[guest] & ~in) == 0) {
                    open |= 1 << guest;
                }
            }
            int rounds = roundsFor[in] + 1;
            for (int next = open; next > 0; next = (next - 1) & open) {
                int then = (in | next) & (GUEST_SETS - 1);
                boolean sooner = roundsFor[then] == NONE || roundsFor[then] > rounds;
                if (sooner && Integer.bitCount(next) <= doors && howManyLed(next) <= doors) {
                    roundsFor[then] = rounds;
                }
            }
        }

        int howManyLed(int leaders) {
            int number = 0;
            for (int guest = 0; guest < MOST_GUESTS; guest++) {
                if (has(leaders, guest)) {
                    number += Integer.bitCount(together[guest]);
                }
            }
            return number;
        }

        int fewestHeaps() {
            Arrays.fill(heaps, 0);
            for (int most = 0; most < MOST_GUESTS; most++) {
                if (partFrom(this, 0, 0, most)) {
                    return most;
                }
            }
            partFrom(this, 0, 0, MOST_GUESTS);
            return MOST_GUESTS;
        }

        /** Parts the guests from this one on; the heaps are as before, if it can't be. */
        private static boolean partFrom(Rank rank, int guest, int used, int most) {
            if (guest >= MOST_GUESTS) {
                return true;
            }
            if (!has(rank.coming, guest)) {
                return partFrom(rank, guest + 1, used, most);
            }
            for (int heap = 0; heap <= used && heap < most && heap < MOST_GUESTS; heap++) {
                if (rank.fits(guest, rank.heaps[heap])) {
                    rank.heaps[heap] |= 1 << guest;
                    if (partFrom(rank, guest + 1, Math.max(used, heap + 1), most)) {
                        return true;
                    }
                    rank.heaps[heap] &= ~(1 << guest);
                }
            }
            return false;
        }

        /** Whether a heap that is well without this guest stays so with it. */
        boolean fits(int guest, int heap) {
            int over = over(1 << guest) & heap;
            if ((even[guest] & (above[guest] & heap | over)) != 0) {
                return false;
            }
            int reached = above[guest] & heap;
            for (int k = 0; k < MOST_GUESTS; k++) {
                if ((reached & over) != 0) {
                    return false;
                }
                reached |= below(reached) & heap;
            }
            return true;
        }

        int leastBeside(int guest) {
            for (int heap = 0; heap < MOST_GUESTS; heap++) {
                if (has(heaps[heap], guest)) {
                    return lowest(heaps[heap]);
                }
            }
            return NONE;
        }
    }

    /** The slights of a seating, and who minds how much. */
    private static final class Slights {
        final int[] places = new int[MOST_GUESTS];
        final int[] minded = new int[MOST_GUESTS];
        int weight = 0;
        int number = 0;
        int heaviest = 0;
        // The slight that was sought, or NONE.
        int sought = NONE;
        int rule = NONE;
        int x = NONE;
        int y = NONE;

        void seatByHand(Court court, Room room, int steps) {
            for (int guest = 0; guest < MOST_GUESTS; guest++) {
                boolean here = court.isSeated(guest) && court.roomOf[guest] == room.number;
                places[guest] = here ? room.onward(court.placeOf[guest], steps) : NONE;
            }
        }

        void tellAll(Court court, Room room, int course, int which) {
            weight = 0;
            number = 0;
            heaviest = 0;
            sought = which;
            rule = NONE;
            x = NONE;
            y = NONE;
            Arrays.fill(minded, 0);
            for (int k = 0; k < court.ruleCount && k < MOST_RULES; k++) {
                if (court.rules[k].countsIn(room.number)) {
                    tellRule(court.rules[k], k, room, course);
                }
            }
        }

        void tellRule(Rule of, int ofNumber, Room room, int course) {
            for (int one = 0; one < MOST_GUESTS; one++) {
                for (int other = 0; other < MOST_GUESTS && of.couples[one] != 0; other++) {
                    boolean both = places[one] != NONE && places[other] != NONE;
                    if (both && has(of.couples[one], other)) {
                        int higher = room.higherOf(course, places[one], places[other]);
                        if (isSlight(of.kind, higher, room.areBeside(places[one], places[other]))) {
                            note(ofNumber, of.weight, one, other);
                            mind(of, higher, one, other);
                        }
                    }
                }
            }
        }

        void note(int ofNumber, int ofWeight, int one, int other) {
            if (number == sought) {
                rule = ofNumber;
                x = one;
                y = other;
            }
            number++;
            weight += ofWeight;
            heaviest = Math.max(heaviest, ofWeight);
        }

        void mind(Rule of, int higher, int one, int other) {
            boolean oneMinds = of.kind != EVEN || higher == SECOND;
            boolean otherMinds = of.kind == APART || of.kind == EVEN && higher == FIRST;
            minded[one] += oneMinds ? of.weight : 0;
            minded[other] += otherMinds ? of.weight : 0;
        }

        int whoMindsMost() {
            int who = NONE;
            int most = 0;
            for (int guest = 0; guest < MOST_GUESTS; guest++) {
                if (minded[guest] > most) {
                    who = guest;
                    most = minded[guest];
                }
            }
            return who;
        }
    }

    /** The turns of a seating by hand by which it evens out. */
    private static final class Evening {
        // What each guest minds, for each number of places on.
        final int[] minds = new int[SEATED_PLACES * MOST_GUESTS];
        final int[] row = new int[EVENED_COURSES];
        int greatest = 0;

        void seek(Court court, Room room, int courses, Slights told) {
            int places = Math.max(1, Math.min(room.places, SEATED_PLACES));
            for (int steps = 0; steps < places; steps++) {
                told.seatByHand(court, room, steps);
                told.tellAll(court, room, 0, NONE);
                System.arraycopy(told.minded, 0, minds, steps * MOST_GUESTS, MOST_GUESTS);
            }
            int rows = 1;
            for (int k = 0; k < courses; k++) {
                rows *= places;
            }
            int best = 0;
            greatest = greatestSum(0, places, courses);
            for (int code = 1; code < rows && greatest > 0; code++) {
                int sum = greatestSum(code, places, courses);
                if (sum < greatest) {
                    greatest = sum;
                    best = code;
                }
            }
            writeRow(best, places, courses);
        }

        /** A code's digits by the number of places are a row of steps, the first course's the highest. */
        int greatestSum(int code, int places, int courses) {
            int most = 0;
            for (int guest = 0; guest < MOST_GUESTS; guest++) {
                int sum = 0;
                int rest = code;
                for (int k = 0; k < courses && places > 0; k++) {
                    sum += minds[rest % places * MOST_GUESTS + guest];
                    rest /= places;
                }
                most = Math.max(most, sum);
            }
            return most;
        }

        void writeRow(int code, int places, int courses) {
            int rest = code;
            for (int k = Math.min(courses, EVENED_COURSES) - 1; k >= 0 && places > 0; k--) {
                row[k] = rest % places;
                rest /= places;
            }
        }
    }

    /** What two guests' places cost them, by how they lie to one another, in course 0. */
    private static final class Pairs {
        // Four answers of which is higher, each beside or not.
        static final int WAYS = 8;

        final int[] guests = new int[SEATED_GUESTS];
        final int[] ways = new int[SEATED_PLACES * SEATED_PLACES];
        final int[] weights = new int[SEATED_GUESTS * SEATED_GUESTS * WAYS];
        final int[] heaviest = new int[SEATED_GUESTS * SEATED_GUESTS * WAYS];
        // What the guests from a turn on can't be spared.
        final int[] weightToCome = new int[SEATED_GUESTS + 1];
        final int[] heaviestToCome = new int[SEATED_GUESTS + 1];
        int number = 0;
        int places = 0;
        int waysThere = 0;

        void lay(Court court, Room room) {
            number = 0;
            for (int guest = 0; guest < MOST_GUESTS; guest++) {
                if (court.isComing(guest) && number < SEATED_GUESTS) {
                    guests[number] = guest;
                    number++;
                }
            }
            layPlaces(room);
            Arrays.fill(weights, 0);
            Arrays.fill(heaviest, 0);
            for (int k = 0; k < court.ruleCount && k < MOST_RULES; k++) {
                if (court.rules[k].countsIn(room.number)) {
                    layRule(court.rules[k]);
                }
            }
            layToCome();
        }

        void layPlaces(Room room) {
            places = Math.min(room.places, SEATED_PLACES);
            waysThere = 0;
            for (int one = 0; one < places; one++) {
                for (int other = 0; other < places; other++) {
                    int beside = room.areBeside(one, other) ? 1 : 0;
                    int way = (room.higherOf(0, one, other) + 1) * 2 + beside;
                    ways[one * SEATED_PLACES + other] = way;
                    waysThere |= one == other ? 0 : 1 << way;
                }
            }
        }

        void layRule(Rule rule) {
            for (int one = 0; one < number; one++) {
                for (int other = 0; other < number; other++) {
                    if (has(rule.couples[guests[one]], guests[other])) {
                        layCouple(rule, one, other);
                    }
                }
            }
        }

        void layCouple(Rule rule, int one, int other) {
            int pair = pairOf(Math.min(one, other), Math.max(one, other));
            for (int way = 0; way < WAYS; way++) {
                int higher = way / 2 - 1;
                if (other < one && (higher == FIRST || higher == SECOND)) {
                    higher = FIRST + SECOND - higher;
                }
                if (isSlight(rule.kind, higher, way % 2 == 1)) {
                    weights[pair + way] += rule.weight;
                    heaviest[pair + way] = Math.max(heaviest[pair + way], rule.weight);
                }
            }
        }

        void layToCome() {
            Arrays.fill(weightToCome, 0);
            Arrays.fill(heaviestToCome, 0);
            for (int other = number - 1; other >= 0; other--) {
                int weight = weightToCome[other + 1];
                int heavy = heaviestToCome[other + 1];
                for (int one = 0; one < other; one++) {
                    weight += leastOf(weights, pairOf(one, other));
                    heavy = Math.max(heavy, leastOf(heaviest, pairOf(one, other)));
                }
                weightToCome[other] = weight;
                heaviestToCome[other] = heavy;
            }
        }

        int leastOf(int[] costs, int pair) {
            int least = NONE;
            for (int way = 0; way < WAYS; way++) {
                if (has(waysThere, way) && (least == NONE || costs[pair + way] < least)) {
                    least = costs[pair + way];
                }
            }
            return Math.max(0, least);
        }

        /** Where the costs of two guests begin, the first one's turn ahead of the second's. */
        static int pairOf(int one, int other) {
            return (one * SEATED_GUESTS + other) * WAYS;
        }
    }

    /** What was found among seatings, and which change of the court it was found at. */
    private static final class Found {
        final int[] place = new int[MOST_GUESTS];
        // The places that a guest has in one or another of them, as bits.
        final int[] ever = new int[MOST_GUESTS];
        int knownAt = NONE;
        int limit = 0;
        boolean any = false;
        int weight = 0;
        int heaviest = 0;
        int moved = 0;
        int number = 0;

        void forget(int change, int newLimit) {
            knownAt = change;
            limit = newLimit;
            any = false;
            number = 0;
            Arrays.fill(place, NONE);
            Arrays.fill(ever, 0);
        }

        void begin(int newWeight, int newHeaviest, int newMoved) {
            any = true;
            weight = newWeight;
            heaviest = newHeaviest;
            moved = newMoved;
            number = 0;
            Arrays.fill(ever, 0);
        }

        int howManyAt(int at) {
            int guests = 0;
            for (int guest = 0; guest < MOST_GUESTS; guest++) {
                guests += bitAt(ever[guest], at);
            }
            return guests;
        }
    }

    /** Goes through the seatings in their order, without those that can't be better. */
    private static final class Search {
        final Pairs pairs = new Pairs();
        final int[] at = new int[SEATED_GUESTS];
        // Where a guest is seated by hand, by its turn; those who stay as bits of turns, and of places.
        final int[] home = new int[SEATED_GUESTS];
        int staying = 0;
        int kept = 0;
        int taken = 0;
        int goal = LEAST;
        Found found = new Found();

        void seek(Court court, Room room, int newGoal, Found into) {
            goal = newGoal;
            found = into;
            taken = 0;
            pairs.lay(court, room);
            lookAtHomes(court, room);
            seatFrom(this, 0, 0, 0, 0);
        }

        void lookAtHomes(Court court, Room room) {
            staying = 0;
            kept = 0;
            for (int turn = 0; turn < pairs.number && turn < SEATED_GUESTS; turn++) {
                int guest = pairs.guests[turn];
                boolean here = goal == MENDED && court.isSeated(guest) && court.roomOf[guest] == room.number;
                home[turn] = here ? court.placeOf[guest] : NONE;
                if (here && has(court.sitting, guest)) {
                    staying |= 1 << turn;
                    kept |= 1 << home[turn];
                }
            }
        }

        private static void seatFrom(Search search, int turn, int weight, int heaviest, int moved) {
            if (turn >= search.pairs.number || turn >= SEATED_GUESTS) {
                search.take(weight, heaviest, moved);
                return;
            }
            for (int place = 0; place < search.pairs.places && place < SEATED_PLACES; place++) {
                if (!search.mayTake(turn, place)) {
                    continue;
                }
                int newWeight = weight + search.weightAt(turn, place);
                int newHeaviest = search.goal == MILDEST ? Math.max(heaviest, search.heaviestAt(turn, place)) : 0;
                int newMoved = moved + (search.home[turn] == NONE || search.home[turn] == place ? 0 : 1);
                if (search.isWorth(turn + 1, newWeight, newHeaviest, newMoved)) {
                    search.at[turn] = place;
                    search.taken |= 1 << place;
                    seatFrom(search, turn + 1, newWeight, newHeaviest, newMoved);
                    search.taken &= ~(1 << place);
                }
            }
        }

        boolean mayTake(int turn, int place) {
            if (has(taken, place)) {
                return false;
            }
            return has(staying, turn) ? home[turn] == place : !has(kept, place);
        }

        int weightAt(int turn, int place) {
            int weight = 0;
            for (int one = 0; one < turn; one++) {
                int way = pairs.ways[at[one] * SEATED_PLACES + place];
                weight += pairs.weights[Pairs.pairOf(one, turn) + way];
            }
            return weight;
        }

        int heaviestAt(int turn, int place) {
            int heaviest = 0;
            for (int one = 0; one < turn; one++) {
                int way = pairs.ways[at[one] * SEATED_PLACES + place];
                heaviest = Math.max(heaviest, pairs.heaviest[Pairs.pairOf(one, turn) + way]);
            }
            return heaviest;
        }

        /** Whether a seating of which the guests ahead of a turn are seated may still be wanted. */
        boolean isWorth(int turn, int weight, int heaviest, int moved) {
            int inAll = weight + pairs.weightToCome[turn];
            if (goal == MENDED) {
                return inAll <= found.limit && (!found.any || moved < found.moved);
            }
            if (!found.any) {
                return true;
            }
            if (goal == LEAST) {
                return inAll <= found.weight;
            }
            int atLeast = Math.max(heaviest, pairs.heaviestToCome[turn]);
            return atLeast < found.heaviest || atLeast == found.heaviest && inAll < found.weight;
        }

        /** All that comes here is better than what was found; with LEAST it may be as good. */
        void take(int weight, int heaviest, int moved) {
            if (!isWorth(pairs.number, weight, heaviest, moved)) {
                return;
            }
            boolean first = !found.any || goal != LEAST || weight < found.weight;
            if (first) {
                found.begin(weight, heaviest, moved);
            }
            found.number++;
            for (int turn = 0; turn < pairs.number && turn < SEATED_GUESTS; turn++) {
                int guest = pairs.guests[turn];
                found.ever[guest] |= 1 << at[turn];
                if (first) {
                    found.place[guest] = at[turn];
                }
            }
        }
    }
}
