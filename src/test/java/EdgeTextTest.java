import java.util.List;

/** Promises 1 to 5 and the first part of 'Terms': the text, its tokens and lines, the fault and the court. */
public final class EdgeTextTest {
    private static final int BLANKS = 0x20202020;
    private static final List<String> KEYS =
        List.of("guest", "mark", "is", "above", "even", "apart", "by", "in", "unless");
    private static final Check CHECK = new Check();

    private EdgeTextTest() {
    }

    public static void main(String[] args) {
        noGuestsNoRooms();
        highestByteFirst();
        twentyOfThem();
        howManyThereAre();
        noMoreThanSevenHundred();
        theFirstBytesAlone();
        endsThatCantBe();
        cutWithinAToken();
        bytesOfWords();
        bytesOfNumbers();
        blanksAndLineEnds();
        asLongAsCanBe();
        oneOrMoreLines();
        tenGuests();
        fiveMarks();
        guestsOfAMark();
        twelveRules();
        weights();
        roomsOfARule();
        whatStandsBehindAWeight();
        namesOfEightLetters();
        keywordsAreNoNames();
        namesAreUnlike();
        namesAreToldAhead();
        EdgeTokens.eachTokenAtEachPlace(CHECK);
        theFirstFaultIsTold();
        theTextEndsTooEarly();
        aFullText();
        faultChangesNothing();
        aCourtTakesThePlace();
        aCourtAfterAnother();
        whatWasFoundOfTheCourtAhead();
        aFaultStays();
        CHECK.close("EdgeTextTest");
    }

    private static void due(String what, long got, long want) {
        CHECK.due(what, got, want);
    }

    private static void due(String what, boolean got, boolean want) {
        CHECK.due(what, got, want);
    }

    /** The fault of a text; a court comes of it only without one. */
    private static void fault(String text, int want) {
        FirstIn x = new FirstIn();
        Check.feed(x, text);
        due("fault of <" + text + ">", x.fault(), want);
        due("a court of <" + text + ">", x.court() != Edge.NONE, want == Edge.NONE);
    }

    /** The fault is at the sign #, which is left out. */
    private static void faultAt(String marked) {
        int at = marked.indexOf('#');
        fault(marked.substring(0, at) + marked.substring(at + 1), at);
    }

    private static void right(String text) {
        fault(text, Edge.NONE);
    }

    private static void noGuestsNoRooms() {
        CHECK.sentence("Promise 1: No guests, no ROOMS");
        FirstIn x = new FirstIn();
        for (int what = 0; what <= 8; what++) {
            due("count " + what, x.count(what), 0);
        }
        due("guest 0", x.guest(0, 0), -1);
        due("rule 0", x.rule(0, 0), -1);
        due("who is above in room 0", x.quarrels(0), -1);
        due("rounds in room 0", x.rounds(0, 1), -1);
        due("seatings in room 0", x.least(0, 0), -1);
        due("slights in room 0", x.slights(0, 0, 0), -1);
        due("places of room 0", x.higher(0, 0, 0, 0), -1);
        due("the first room", x.room(0, 1), 0);
        due("nobody is above in it", x.quarrels(0), 0);
    }

    private static void feedBytes(FirstIn x, int[] bytes) {
        int[] five = new int[5];
        for (int k = 0; k < 20; k++) {
            five[k / 4] |= (bytes[k] & 255) << 24 - k % 4 * 8;
        }
        x.feed(five[0], five[1], five[2], five[3], five[4]);
    }

    /** A byte that begins no token is the fault wherever it comes to stand among blanks. */
    private static void highestByteFirst() {
        CHECK.sentence("Promise 2: of each number the highest first (20 of them)");
        for (int place = 0; place < 20; place++) {
            for (int odd : new int[] {0, 1, 31, 33, 127, 128, 255}) {
                int[] bytes = new int[20];
                java.util.Arrays.fill(bytes, 32);
                bytes[place] = odd;
                FirstIn x = new FirstIn();
                feedBytes(x, bytes);
                due("byte " + odd + " at " + place, x.fault(), place);
            }
        }
        FirstIn x = new FirstIn();
        x.feed(BLANKS, Edge.LEAST, BLANKS, BLANKS, BLANKS);
        due("the least number's first byte is 128", x.fault(), 4);
        x.end(4);
        due("the least number was cut away", x.fault(), 4);
        x.feed('g' << 24 | 'u' << 16 | 'e' << 8 | 's', 't' << 24 | ' ' << 16 | 'a' << 8 | ';', BLANKS, BLANKS,
            Edge.GREATEST);
        due("the greatest number's first byte is 127", x.fault(), 20);
        x.end(20);
        due("ahead of it stands a court", x.fault(), -1);
    }

    private static void twentyOfThem() {
        CHECK.sentence("Promise 2: Bytes come behind those of the text");
        FirstIn x = new FirstIn();
        Check.feed(x, "guest");
        due("20 behind 5", x.feed(BLANKS, BLANKS, BLANKS, BLANKS, 'a' | BLANKS & ~255), 25);
        due("cut", x.end(25), true);
        due("and a line end", x.feed(';' << 24 | BLANKS >>> 8, BLANKS, BLANKS, BLANKS, BLANKS), 45);
        due("they are read together", x.fault(), -1);
        due("one guest", x.court(), 1);
    }

    private static void howManyThereAre() {
        CHECK.sentence("Promise 2: how many there are");
        for (int cut : new int[] {0, 1, 19, 20}) {
            FirstIn x = new FirstIn();
            due("the first 20", x.feed(0, -1, Edge.LEAST, Edge.GREATEST, 1), 20);
            x.end(cut);
            due("20 behind " + cut, x.feed(BLANKS, BLANKS, BLANKS, BLANKS, BLANKS), cut + 20);
            due("bytes", x.count(4), cut + 20);
        }
    }

    private static FirstIn ofBytes(int bytes) {
        FirstIn x = new FirstIn();
        while (x.count(4) < bytes) {
            x.feed(BLANKS, BLANKS, BLANKS, BLANKS, BLANKS);
        }
        x.end(bytes);
        return x;
    }

    private static void noMoreThanSevenHundred() {
        CHECK.sentence("Promise 2: NONE if there would be more than 700");
        for (int ahead : new int[] {679, 680}) {
            due("20 behind " + ahead, ofBytes(ahead).feed(-1, -1, -1, -1, -1), ahead + 20);
        }
        for (int ahead : new int[] {681, 682, 699, 700}) {
            FirstIn x = ofBytes(ahead);
            due("20 behind " + ahead, x.feed(-1, -1, -1, -1, -1), -1);
            due("it is refused once more", x.feed(-1, -1, -1, -1, -1), -1);
            due("bytes", x.count(4), ahead);
            due("they are blanks as before", x.fault(), ahead);
            x.end(680);
            due("then there is room", x.feed(-1, -1, -1, -1, -1), 700);
            due("bytes that begin no token", x.fault(), 680);
        }
    }

    private static void theFirstBytesAlone() {
        CHECK.sentence("Promise 3: The text has its first n bytes alone: true");
        for (int bytes : new int[] {0, 1, 20, 699, 700}) {
            for (int n : new int[] {0, 1, bytes - 1, bytes}) {
                if (n >= 0 && n <= bytes) {
                    FirstIn x = ofBytes(bytes);
                    due("end " + n + " of " + bytes, x.end(n), true);
                    due("bytes", x.count(4), n);
                    due("again", x.end(n), true);
                }
            }
        }
        FirstIn x = new FirstIn();
        Check.feed(x, "guest a; ?");
        due("end 9", x.end(9), true);
        due("what is cut away is no fault", x.fault(), -1);
        due("end 7", x.end(7), true);
        due("nor is it there still", x.fault(), 7);
    }

    private static void endsThatCantBe() {
        CHECK.sentence("Promise 3: false if it has not so many, or n is below 0");
        for (int bytes : new int[] {0, 1, 20, 699, 700}) {
            FirstIn x = ofBytes(bytes);
            for (int n : Edge.beyond(0, bytes)) {
                due("end " + n + " of " + bytes, x.end(n), false);
                due("bytes", x.count(4), bytes);
            }
        }
        FirstIn x = ofBytes(40);
        x.end(20);
        due("what is cut away comes not again", x.end(21), false);
    }

    private static void cutWithinAToken() {
        CHECK.sentence("Promise 3: first n bytes alone");
        String text = "guest abc;even abc abc by 1111;";
        String[] cut = {"guest a", "gue", "guest abc;even a", "guest abc;even abc abc by 1"};
        int[] fault = {7, 0, 15, 27};
        for (int k = 0; k < cut.length; k++) {
            FirstIn x = new FirstIn();
            Check.feed(x, text);
            due("cut", x.end(cut[k].length()), true);
            due("fault of <" + cut[k] + ">", x.fault(), fault[k]);
            due("court of <" + cut[k] + ">", x.court(), -1);
        }
        FirstIn x = new FirstIn();
        Check.feed(x, "guest abc;");
        x.end(7);
        x.feed(';' << 24 | 'g' << 16 | 'u' << 8 | 'e', 's' << 24 | 't' << 16 | ' ' << 8 | 'b', ';' << 24 | BLANKS >>> 8, BLANKS,
            BLANKS);
        due("a and b", x.fault(), -1);
        x.court();
        Check.feed(x, "guest abc;even abc abc by 1111;");
        x.end(27);
        x.feed(';' << 24 | BLANKS >>> 8, BLANKS, BLANKS, BLANKS, BLANKS);
        due("by 1", x.court(), 1);
        due("its weight", x.rule(0, 3), 1);
    }

    private static void bytesOfWords() {
        CHECK.sentence("Terms 1: words of small letters");
        for (int sign = 0; sign < 256; sign++) {
            char c = (char) sign;
            boolean letter = c >= 'a' && c <= 'z';
            boolean blank = c == ' ' || c == '\n';
            fault("guest " + c + ";", letter ? -1 : blank ? 7 : 6);
            fault("guest z" + c + " ;", letter || blank ? -1 : c == ';' ? 9 : 7);
        }
    }

    private static void bytesOfNumbers() {
        CHECK.sentence("Terms 1: numbers of digits");
        for (int sign = 0; sign < 256; sign++) {
            char c = (char) sign;
            boolean blank = c == ' ' || c == '\n';
            boolean weight = c >= '1' && c <= '9';
            String head = "guest a;even a a by ";
            fault(head + c + ";", weight ? -1 : blank ? head.length() + 1 : head.length());
            boolean digit = weight || c == '0';
            fault(head + 1 + c + ";", blank ? -1 : digit ? head.length() : c == ';' ? head.length() + 2
                : head.length() + 1);
        }
    }

    private static void blanksAndLineEnds() {
        CHECK.sentence("Terms 1: with any blanks (32) and line ends (10) between");
        for (int sign = 0; sign < 256; sign++) {
            char c = (char) sign;
            boolean blank = c == ' ' || c == '\n';
            boolean letter = c >= 'a' && c <= 'z';
            fault("guest" + c + "a;", blank ? -1 : letter ? 0 : 5);
            fault(c + "guest a;", blank ? -1 : 0);
            fault("guest a;" + c, blank ? -1 : 8);
        }
        right("guest a;even a a by 1in 2;");
        right("guest a;mark m is a;even a m by 9in3unless m;");
        right(" \n \n guest \n\n a  \n ;\n ");
        right("guest a;guest b;");
    }

    private static void asLongAsCanBe() {
        CHECK.sentence("Terms 1: TOKENS: words, numbers, as long as can be");
        faultAt("#guesta;");
        faultAt("#gues t a;");
        right("guest ab;guest abc;guest a;");
        faultAt("guest ab #c;");
        faultAt("guest a;mark m #isa;");
        right("guest a;even a a by 1;");
        faultAt("guest a;even a a by #11;");
        faultAt("guest a;even a a by 1 #1;");
        faultAt("guest a;even a a by 1 in #11;");
        faultAt("guest a;even a a by 1 in 1 #1;");
        faultAt("guest a;even a a by1in#11;");
        faultAt("guest a#1;");
        faultAt("guest a;#;");
    }

    private static void oneOrMoreLines() {
        CHECK.sentence("Terms 1: LINES, one or more; the length, if it has no guest");
        fault("", 0);
        fault(" ", 1);
        fault("\n\n", 2);
        fault(Edge.padded("", 699), 699);
        fault(Edge.padded("", 700), 700);
        right("guest a;");
        faultAt("mark m is #a;");
        faultAt("above #a a by 1;");
    }

    private static void tenGuests() {
        CHECK.sentence("Terms 1: guest: at most 10, numbers as they come; an 11th at its first word");
        for (int number = 1; number <= 10; number++) {
            FirstIn x = new FirstIn();
            Check.feed(x, Edge.guests(number) + "mark m is " + Edge.name(number - 1) + ";");
            due("guests", x.court(), number);
            due("count", x.count(0), number);
            due("the last one's number", x.guest(number - 1, 1), 1);
            due("behind the last", x.guest(number, 1), -1);
        }
        faultAt(Edge.guests(10) + "#guest k;");
        faultAt(Edge.guests(10) + "#guest a;");
        faultAt(Edge.guests(10) + " #guest");
        right(Edge.guests(10) + "mark m is a;even a b by 1;");
        faultAt(Edge.guests(9) + "guest #a;");
    }

    private static String marks(int number) {
        StringBuilder lines = new StringBuilder();
        for (int mark = 0; mark < number; mark++) {
            lines.append("mark ").append((char) ('v' + mark)).append(" is a;");
        }
        return lines.toString();
    }

    private static void fiveMarks() {
        CHECK.sentence("Terms 1: mark: at most 5, numbers as they come; a 6th at its first word");
        for (int number = 0; number <= 5; number++) {
            FirstIn x = Check.court("guest a;" + marks(number));
            due("marks", x.count(1), number);
            due("as bits", x.guest(0, 1), (1 << number) - 1);
        }
        faultAt("guest a;" + marks(5) + "#mark m is a;");
        faultAt("guest a;" + marks(5) + "#mark v is a;");
        faultAt("guest a;" + marks(5) + "#mark");
        faultAt("guest a;" + marks(4) + "mark #v is a;");
        right("guest a;" + marks(5) + "guest b;even v z by 1 unless z;");
    }

    private static void guestsOfAMark() {
        CHECK.sentence("Terms 1: mark NAME is NAME and any number of further NAMES; a guest twice in a mark's line");
        for (int number = 1; number <= 10; number++) {
            FirstIn x = Check.court(Edge.marked(number));
            for (int guest = 0; guest < number; guest++) {
                due("marks of " + guest + " of " + number, x.guest(guest, 1), 1);
            }
            String line = Edge.marked(number);
            faultAt(line.substring(0, line.length() - 1) + " #" + Edge.name(number - 1) + ";");
            faultAt(line.substring(0, line.length() - 1) + " #a;");
        }
        faultAt(Edge.guests(2) + "mark m is #;");
        faultAt(Edge.guests(2) + "mark m is a #a b;");
        FirstIn x = Check.court(Edge.guests(3) + "mark m is b;mark n is b c;");
        due("not told: none", x.guest(0, 1), 0);
        due("a guest in two lines", x.guest(1, 1), 3);
        due("in the second alone", x.guest(2, 1), 2);
    }

    private static String rules(int number) {
        StringBuilder lines = new StringBuilder();
        for (int rule = 0; rule < number; rule++) {
            lines.append(new String[] {"above", "even", "apart"}[rule % 3]).append(" a a by 1;");
        }
        return lines.toString();
    }

    private static void twelveRules() {
        CHECK.sentence("Terms 1: RULES, at most 12, numbers as they come: kinds 0, 1, 2; a 13th at its first word");
        for (int number = 0; number <= 12; number++) {
            FirstIn x = Check.court("guest a;" + rules(number));
            due("rules", x.count(2), number);
            due("the last one's kind", x.rule(number - 1, 0), number == 0 ? -1 : (number - 1) % 3);
            due("behind the last", x.rule(number, 0), -1);
        }
        for (String kind : new String[] {"above", "even", "apart"}) {
            faultAt("guest a;" + rules(12) + "#" + kind + " a a by 1;");
            faultAt("guest a;" + rules(12) + "#" + kind);
            right("guest a;" + rules(11) + kind + " a a by 1;");
        }
        right("guest a;" + rules(12) + "guest b;mark m is a b;");
    }

    private static final String[] GREAT = {"10", "11", "19", "90", "99", "100", "255", "256", "257", "258", "65536", "65537",
        "2147483647", "2147483648", "4294967295", "4294967296", "4294967297", "1099511627776", "1099511627777",
        "9223372036854775807", "9223372036854775808", "18446744073709551615", "18446744073709551616",
        "18446744073709551617", "340282366920938463463374607431768211457"};

    private static void weights() {
        CHECK.sentence("Terms 1: W 1 .. 9 its WEIGHT; a number that can't be");
        for (int weight = 1; weight <= 9; weight++) {
            due("weight", Check.court("guest a;above a a by " + weight + ";").rule(0, 3), weight);
        }
        faultAt("guest a;above a a by #0;");
        faultAt("guest a;above a a by #0");
        for (String great : GREAT) {
            faultAt("guest a;above a a by #" + great + ";");
        }
        faultAt("guest a;above a a by #" + "9".repeat(600) + ";");
        faultAt("guest a;above a a by #-1;");
        faultAt("guest a;above a a by #a;");
        faultAt("guest a;above a a by #;");
    }

    private static void roomsOfARule() {
        CHECK.sentence("Terms 1: R a room's number, 0 .. 3; a number that can't be");
        for (int room = 0; room <= 3; room++) {
            due("room", Check.court("guest a;above a a by 1 in " + room + ";").rule(0, 4), room);
        }
        for (String bad : new String[] {"4", "5", "9"}) {
            faultAt("guest a;above a a by 1 in #" + bad + ";");
        }
        for (String great : GREAT) {
            faultAt("guest a;above a a by 1 in #" + great + ";");
        }
        faultAt("guest a;above a a by 1 in #-1;");
        faultAt("guest a;above a a by 1 in #a;");
        faultAt("guest a;above a a by 1 in #;");
    }

    private static void whatStandsBehindAWeight() {
        CHECK.sentence("Terms 1: T is nothing, or in R, or unless NAME of a mark, or both in this order");
        String head = "guest a;guest b;mark m is a;mark n is b;above a b by 3";
        String[] behind = {"", " in 2", " unless n", " in 2 unless n"};
        for (int k = 0; k < 4; k++) {
            FirstIn x = Check.court(head + behind[k] + ";");
            due("room of <" + behind[k] + ">", x.rule(0, 4), k % 2 == 1 ? 2 : -1);
            due("mark of <" + behind[k] + ">", x.rule(0, 5), k >= 2 ? 1 : -1);
        }
        faultAt(head + " unless m #in 2;");
        faultAt(head + " in 2 #in 2;");
        faultAt(head + " in 2 #2;");
        faultAt(head + " unless m #unless m;");
        faultAt(head + " unless m #n;");
        faultAt(head + " in 2 unless m #in 2;");
        faultAt(head + " unless #a;");
        faultAt(head + " unless #q;");
        faultAt(head + " unless #;");
        faultAt(head + " in #;");
        faultAt(head + " #m;");
    }

    private static void namesOfEightLetters() {
        CHECK.sentence("Terms 1: NAMES are words of at most 8 letters");
        for (int letters = 1; letters <= 8; letters++) {
            right("guest " + "a".repeat(letters) + ";");
            right("guest " + "z".repeat(letters) + ";mark " + "y".repeat(letters) + " is " + "z".repeat(letters) + ";");
        }
        for (int letters : new int[] {9, 10, 13, 14, 16, 17, 64, 600}) {
            faultAt("guest #" + "a".repeat(letters) + ";");
            faultAt("guest #" + "z".repeat(letters) + ";");
            faultAt("guest a;mark #" + "b".repeat(letters) + " is a;");
            faultAt("guest a;guest aaaaaaaa;mark m is #" + "a".repeat(letters) + ";");
            faultAt("guest a;guest aaaaaaaa;even #" + "a".repeat(letters) + " a by 1;");
        }
        // Words of more letters are no keywords, whatever their ends.
        for (String key : KEYS) {
            faultAt("guest a;#" + "z".repeat(8) + key + " ;");
            faultAt("guest a;#" + key + "z".repeat(8) + " ;");
        }
    }

    private static void keywordsAreNoNames() {
        CHECK.sentence("Terms 1: NAMES are words but: guest mark is above even apart by in unless");
        for (String key : KEYS) {
            faultAt("guest #" + key + ";");
            faultAt("guest a;mark #" + key + " is a;");
            faultAt("guest a;mark m is #" + key + ";");
            faultAt("guest a;even #" + key + " a by 1;");
            faultAt("guest a;even a #" + key + " by 1;");
            faultAt("guest a;even a a by 1 unless #" + key + ";");
            right("guest " + key + "x;");
            right("guest x" + key + ";");
            right("guest " + key.substring(1) + ";");
            right("guest " + key.substring(0, key.length() - 1) + ";");
            right("guest a;mark " + key.substring(1) + key.charAt(0) + " is a;");
        }
    }

    private static void namesAreUnlike() {
        CHECK.sentence("Terms 1: All those of guests and marks are unlike; a NAME that is told already");
        faultAt("guest a;guest #a;");
        faultAt("guest a;guest b;guest #a;");
        faultAt("guest a;mark #a is a;");
        faultAt("guest a;mark m is a;guest #m;");
        faultAt("guest a;mark m is a;mark #m is a;");
        faultAt("guest abcdefgh;guest #abcdefgh;");
        right("guest abcdefgh;guest abcdefgi;guest bbcdefgh;guest abcdefg;guest bcdefgh;");
        right("guest a;guest aa;guest aaa;mark aaaa is aaa aa a;");
        right("guest zzzzzzzz;guest zzzzzzz;guest zzzzzzzy;");
        faultAt(Edge.guests(9) + "guest #i;");
        faultAt(Edge.guests(10) + "mark #j is a;");
        faultAt("guest a;" + marks(4) + "mark #y is a;");
        faultAt("guest a;" + marks(5) + "guest #z;");
    }

    private static void namesAreToldAhead() {
        CHECK.sentence("Terms 1: they are told ahead of a line that names them; isn't where one is named");
        faultAt("guest a;mark m is #b;guest b;");
        faultAt("guest a;mark m is a #b;guest b;");
        faultAt("guest a;above #b a by 1;guest b;");
        faultAt("guest a;above a #b by 1;guest b;");
        faultAt("guest a;above #m a by 1;mark m is a;");
        faultAt("guest a;above a a by 1 unless #m;mark m is a;");
        faultAt("guest a;mark m is #m;");
        faultAt("guest a;mark m is a #m;");
        faultAt("guest a;mark m is a;mark n is #m;");
        faultAt("#a");
        right("guest a;mark m is a;above m a by 1 unless m;guest b;mark n is b;above n b by 1;");
        FirstIn x = new FirstIn();
        Check.feed(x, "guest a;guest b;mark m is a;");
        x.court();
        Check.feed(x, "guest a;even a b by 1;");
        due("names of the court ahead are forgotten", x.fault(), 15);
        Check.feed(x, "guest m;guest b;guest a;");
        due("and may be told anew", x.fault(), -1);
    }

    private static void theFirstFaultIsTold() {
        CHECK.sentence("Terms 1: the first TOKEN that can't stand there, or a byte that begins no TOKEN, if that is ahead");
        faultAt("guest a #b ?;");
        faultAt("guest a #? b;");
        faultAt("guest a#?;");
        faultAt("guest a; #by ? guest b;");
        faultAt("guest a; #? by");
        faultAt("guest #in;" + "?");
        faultAt("#? guest a;");
        faultAt("guest a;guest #a;guest a;");
        faultAt("guest a;even a a by #0 in 4;");
        faultAt("guest a;even a a by 1 in #4 unless m;");
        faultAt(Edge.guests(10) + "#guest ?");
        faultAt("guest #abcdefghi?;");
        // A byte within a word ends it: what is ahead of the byte is a token of its own.
        faultAt("#gu?est a;");
        faultAt("guest a#?b;");
        faultAt("guest a;even a a by #10?;");
        faultAt("guest a;even a a by 1#?0;");
    }

    private static void theTextEndsTooEarly() {
        CHECK.sentence("Terms 1: the length, if it ends too early; NONE without");
        String[] tokens = ("guest a ; guest b ; mark m is b a ; above a m by 3 in 2 unless m ; even m b by 1 ;"
            + " apart b a by 2 unless m ; even a b by 9 in 0 ; mark n is a ;").split(" ");
        StringBuilder text = new StringBuilder();
        for (String token : tokens) {
            text.append(token);
            fault(text.toString(), token.equals(";") ? -1 : text.length());
            fault(text + " \n", token.equals(";") ? -1 : text.length() + 2);
            text.append(' ');
            fault(text.toString() + "?", text.length());
        }
        faultAt("#gues");
        faultAt("guest a;#gues");
        faultAt("guest a;mark m #i");
        faultAt("guest a;even a a #b");
        faultAt("guest a;even a a by 1 #unles");
    }

    private static void aFullText() {
        CHECK.sentence("Terms 1: A COURT is a text of at most 700 bytes");
        for (int bytes : new int[] {699, 700}) {
            fault(Edge.padded("guest a;", bytes), -1);
            fault(Edge.padded("guest a", bytes), bytes);
            fault(Edge.padded("guest a;", bytes - 1) + "?", bytes - 1);
            fault(Edge.padded("guest a", bytes - 1) + ";", -1);
            fault(Edge.padded("guest a;", bytes - 5) + "guest", bytes);
            fault(Edge.padded("guest a;guest", bytes - 1) + "b", bytes);
            fault(Edge.padded("guest a;even a a by", bytes - 1) + "1", bytes);
            fault(Edge.padded("guest a;guest", bytes - 9) + "b".repeat(9), bytes - 9);
            fault(" ".repeat(bytes - 8) + "guest a;", -1);
        }
        fault("z".repeat(700), 0);
        fault("9".repeat(700), 0);
        fault(";".repeat(700), 0);
        String most = Edge.marked(10) + marks(4) + "even m m by 1 in 3 unless v;".repeat(12);
        fault(Edge.padded(most, 700), -1);
    }

    private static void faultChangesNothing() {
        CHECK.sentence("Promise 4: The FAULT");
        for (String text : new String[] {"", "guest z;", "guest z;guest", "guest z;?", "guest z;guest z;"}) {
            FirstIn x = Check.court("guest a;guest b;mark m is b;above a b by 3;");
            Check.feed(x, text);
            int fault = x.fault();
            due("again <" + text + ">", x.fault(), fault);
            due("bytes", x.count(4), text.length());
            due("guests", x.count(0), 2);
            due("marks", x.guest(1, 1), 1);
            due("rules", x.rule(0, 6), 1);
        }
    }

    private static void aCourtTakesThePlace() {
        CHECK.sentence("Promise 5: A COURT comes of the text, which is empty then: how many guests");
        FirstIn x = new FirstIn();
        Check.feed(x, Edge.marked(10) + "above m m by 9;");
        due("ten", x.court(), 10);
        due("bytes", x.count(4), 0);
        due("an empty text has no guest", x.fault(), 0);
        x.room(Edge.ROW, 10);
        for (int guest = 0; guest < 10; guest++) {
            x.seat(guest, 0, 9 - guest);
            x.sits(guest, true);
        }
        x.comes(9, false);
        x.rest(0, true);
        Check.feed(x, "guest z;guest y;even z y by 2;");
        due("two", x.court(), 2);
        CHECK.sentence("Terms 1: all its guests COME, none is SEATED or SITS, no RULE RESTS");
        int[] want = {2, 0, 1, 1, 0, 2, 0, 0, 0};
        for (int what = 0; what < want.length; what++) {
            due("count " + what, x.count(what), want[what]);
        }
        due("guest 1 comes", x.guest(1, 0), 1);
        due("guest 1 is not seated", x.guest(1, 3), -1);
        due("guest 1 sits not", x.guest(1, 4), 0);
        due("guest 2 is gone", x.guest(2, 0), -1);
        due("rule 0 rests not", x.rule(0, 7), 0);
        due("its kind", x.rule(0, 0), 1);
        due("its couples", x.rule(0, 6), 1);
        due("nobody has a place", x.seat(0, 0, 0), true);
    }

    /** The third court comes where the first one was held: nothing of it may be left. */
    private static FirstIn afterTwo(String third) {
        FirstIn x = new FirstIn();
        x.room(Edge.ROW, 8);
        x.room(Edge.ROW, 10);
        Check.feed(x, Edge.marked(10) + marks(4) + "apart m m by 9 in 3 unless v;" + "above m m by 9 unless y;"
            + "above m m by 9;".repeat(5) + "even m m by 9;".repeat(5));
        x.court();
        for (int guest = 0; guest < 10; guest++) {
            x.seat(guest, 1, guest);
            x.sits(guest, true);
        }
        for (int rule = 0; rule < 12; rule++) {
            x.rest(rule, true);
        }
        x.comes(0, false);
        Check.feed(x, "guest z;");
        x.court();
        Check.feed(x, third);
        x.court();
        return x;
    }

    private static void aCourtAfterAnother() {
        CHECK.sentence("Terms 1: A COURT takes the place of the one ahead: all its guests COME, none is SEATED"
            + " or SITS, no RULE RESTS");
        FirstIn x = afterTwo("guest a;guest b;guest c;mark n is c;above b a by 1;above c a by 2;");
        int[] want = {3, 1, 2, 2, 0, 3, 0, 0, 0};
        for (int what = 0; what < want.length; what++) {
            due("count " + what, x.count(what), want[what]);
        }
        int[] guest = {1, 0, -1, -1, 0};
        int[] rule = {0, 1, 0, 1, -1, -1, 1, 0};
        for (int what = 0; what <= 4; what++) {
            due("guest 0, " + what, x.guest(0, what), guest[what]);
        }
        for (int what = 0; what <= 7; what++) {
            due("rule 0, " + what, x.rule(0, what), rule[what]);
        }
        due("marks of c", x.guest(2, 1), 1);
        for (int k = 2; k < 12; k++) {
            due("rule " + k, x.rule(k, 7), -1);
        }
        due("it rests", x.rest(0, true), true);
        due("so few rest", x.count(8), 1);
        FirstIn none = afterTwo("guest a;guest b;");
        none.seat(0, 1, 1);
        none.seat(1, 1, 0);
        due("no slights", none.slights(1, 0, 1), 0);
        due("no source", none.source(0, 0, 1), -1);
        due("no ring", none.ring(0, -1), -1);
        due("none to rest", none.toRest(0, 1), 0);
        due("rounds", none.rounds(0, 2), 1);
        due("heaps", none.few(0, -1), 1);
        due("weight", none.least(0, 0), 0);
        due("none sits", none.leave(0), true);
    }

    private static void whatWasFoundOfTheCourtAhead() {
        CHECK.sentence("Promise 5: A COURT comes of the text: what was asked of the one ahead holds no more");
        FirstIn x = new FirstIn();
        x.room(Edge.ROW, 2);
        for (int times = 1; times <= 9; times++) {
            boolean turned = times % 2 == 0;
            String couple = turned ? "a b" : "b a";
            Check.feed(x, "guest a;guest b;above a b by " + times + ";above b a by " + times + ";above " + couple + " by 1;");
            due("court " + times, x.court(), 2);
            due("least in court " + times, x.least(0, 0), times);
            due("mildest in court " + times, x.least(0, 3), times);
            due("best of a in court " + times, x.best(0, 0, false), turned ? 0 : 1);
            due("mildest of a in court " + times, x.best(0, 0, true), turned ? 0 : 1);
            due("mended in court " + times, x.mended(0, times, 0), turned ? 0 : 1);
            due("to rest in court " + times, x.toRest(0, 0), turned ? 2 : 1);
            Check.feed(x, "guest a;guest b;above " + couple + " by 1;");
            due("once more", x.court(), 2);
            due("mended within 0", x.mended(0, 0, 0), turned ? 0 : 1);
        }
        for (int times = 1; times <= 9; times++) {
            Check.feed(x, "guest a;guest b;above " + (times % 2 == 0 ? "a b" : "b a") + " by 1;");
            x.court();
            due("mended within 0, at once", x.mended(0, 0, 0), times % 2 == 0 ? 0 : 1);
        }
    }

    private static void aFaultStays() {
        CHECK.sentence("Promise 5: NONE with a FAULT (it stays)");
        for (String text : new String[] {"", " ", "guest", "guest z;?", "guest z;guest z;", Edge.padded("guest z", 700)}) {
            FirstIn x = Check.court("guest a;guest b;mark m is b;above a b by 3;");
            x.room(Edge.ROW, 2);
            x.seat(1, 0, 1);
            x.sits(1, true);
            x.comes(0, false);
            x.rest(0, true);
            Check.feed(x, text);
            int fault = x.fault();
            due("court of <" + text + ">", x.court(), -1);
            due("its fault", x.fault(), fault);
            int[] want = {2, 1, 1, 1, text.length(), 1, 1, 1, 1};
            for (int what = 0; what < want.length; what++) {
                due("count " + what, x.count(what), want[what]);
            }
        }
        for (String word : List.of("by", "a", "1", ";")) {
            FirstIn x = Check.court("guest a;");
            Check.feed(x, word);
            due("court of <" + word + ">", x.court(), -1);
            due("its guests stay", x.count(0), 1);
        }
    }
}
