/** Promises 1 to 9 and 31: the text, its fault, the court, rooms, guests and rules; answers by hand from the document. */
public final class ReadingTest {
    private static final int BLANKS = 0x20202020;
    private static final Check CHECK = new Check();

    private ReadingTest() {
    }

    public static void main(String[] args) {
        aNewObject();
        feed();
        end();
        faultOfLines();
        faultOfEnds();
        faultOfNames();
        faultOfNumbers();
        faultOfTooMany();
        faultOfBytes();
        court();
        room();
        guest();
        rule();
        rest();
        count();
        CHECK.close("ReadingTest");
    }

    private static void due(String what, long got, long want) {
        CHECK.due(what, got, want);
    }

    private static void due(String what, boolean got, boolean want) {
        CHECK.due(what, got, want);
    }

    private static void aNewObject() {
        FirstIn x = new FirstIn();
        for (int what = 0; what <= 8; what++) {
            due("new count " + what, x.count(what), 0);
        }
        due("new guest", x.guest(0, 0), -1);
        due("new rule", x.rule(0, 0), -1);
        due("new higher", x.higher(0, 0, 0, 0), -1);
        due("new comes", x.comes(0, false), false);
        due("new rest", x.rest(0, true), false);
        due("new seat", x.seat(0, 0, 0), false);
        due("new leave", x.leave(0), false);
        due("new sits", x.sits(0, true), false);
        due("new quarrels", x.quarrels(0), -1);
        due("NONE", FirstIn.NONE, -1);
    }

    private static void feed() {
        FirstIn x = new FirstIn();
        due("feed", x.feed('g' << 24 | 'u' << 16 | 'e' << 8 | 's', 't' << 24 | ' ' << 16 | 'a' << 8 | ';', BLANKS, BLANKS,
            BLANKS), 20);
        due("highest first", x.fault(), -1);
        for (int k = 2; k <= 35; k++) {
            due("feed " + k, x.feed(BLANKS, BLANKS, BLANKS, BLANKS, BLANKS), 20 * k);
        }
        due("full", x.feed(BLANKS, BLANKS, BLANKS, BLANKS, BLANKS), -1);
        due("full bytes", x.count(4), 700);
        due("full court", x.fault(), -1);
        due("cut", x.end(681), true);
        due("700 would be passed", x.feed(BLANKS, BLANKS, BLANKS, BLANKS, BLANKS), -1);
        due("refused changes nothing", x.count(4), 681);
        due("cut", x.end(680), true);
        due("just 700", x.feed(BLANKS, BLANKS, BLANKS, BLANKS, BLANKS), 700);
        FirstIn high = new FirstIn();
        due("bytes of 128 and more", high.feed(-1, -1, -1, -1, -1), 20);
        due("they begin no token", high.fault(), 0);
    }

    private static void end() {
        FirstIn x = new FirstIn();
        due("end 0 of 0", x.end(0), true);
        due("end 1 of 0", x.end(1), false);
        due("end -1", x.end(-1), false);
        x.feed(BLANKS, BLANKS, BLANKS, BLANKS, BLANKS);
        due("end 21", x.end(21), false);
        due("end least", x.end(Integer.MIN_VALUE), false);
        due("end greatest", x.end(Integer.MAX_VALUE), false);
        due("unchanged", x.count(4), 20);
        due("end 20", x.end(20), true);
        due("end 7", x.end(7), true);
        due("seven", x.count(4), 7);
        due("end 8", x.end(8), false);
        due("behind the cut", x.feed(BLANKS, BLANKS, BLANKS, BLANKS, BLANKS), 27);
    }

    private static void fault(String text, int want) {
        FirstIn x = new FirstIn();
        Check.feed(x, text);
        due("fault of [" + text + "]", x.fault(), want);
        due("court of [" + text + "]", x.court() == -1, want != -1);
        due("text behind [" + text + "]", x.count(4), want == -1 ? 0 : text.length());
    }

    /** The fault is at the sign #, which is left out. */
    private static void faultAt(String marked) {
        int at = marked.indexOf('#');
        fault(marked.substring(0, at) + marked.substring(at + 1), at);
    }

    private static void faultOfLines() {
        fault("", 0);
        fault("   ", 3);
        fault("\n", 1);
        fault("guest a;", -1);
        fault(" \nguest\n\na  ;  \n", -1);
        fault("guest a;mark m is a;above a m by1in2unless m;", -1);
        fault("guest a;guest b;mark m is a b;mark n is b;even m n by 9 unless n;apart a b by 3 in 0;", -1);
        faultAt("guest a;above a a by 1#");
        faultAt("guest a; above a a by 1 in 3  #");
        faultAt("guest a#");
        faultAt("guest#");
        faultAt("guest #");
        faultAt("#gues");
        faultAt("guest a; mark m is a#");
        faultAt("guest a; mark m is#");
        faultAt("#a");
        faultAt("#;");
        faultAt("guest a;#;");
        faultAt("guest a; #is");
        faultAt("guest a #guest b;");
        faultAt("guest a; mark m #a;");
        faultAt("guest a; mark m is #;");
        faultAt("guest a; above a #by 1;");
        faultAt("guest a; above a a #1;");
        faultAt("guest a; above a a by #a;");
        faultAt("guest a; above a a by 1 #by;");
        faultAt("guest a; above a a by 1 in 1 #in 2;");
        faultAt("guest a; mark m is a; above a a by 1 unless m #in 1;");
        faultAt("guest a; mark m is a; above a a by 1 unless m #unless m;");
        faultAt("guest a; above a a by 1 in #unless;");
        faultAt("guest a; above a a by 1 #2;");
    }

    /** A text that ends behind each of its tokens: too early, but behind a line's last one. */
    private static void faultOfEnds() {
        String[] tokens = ("guest a ; guest b ; mark m is b a ; above a m by 3 in 2 unless m ; even m b by 1 ;"
            + " apart b a by 2 unless m ; mark n is a ;").split(" ");
        StringBuilder text = new StringBuilder();
        for (String token : tokens) {
            text.append(token).append(' ');
            fault(text.toString(), token.equals(";") ? -1 : text.length());
        }
    }

    private static void faultOfNames() {
        for (String key : new String[] {"guest", "mark", "is", "above", "even", "apart", "by", "in", "unless"}) {
            faultAt("guest #" + key + ";");
            faultAt("guest a; mark #" + key + " is a;");
            faultAt("guest a; mark m is #" + key + ";");
            fault("guest " + key + "s;", -1);
        }
        fault("guest abcdefgh;", -1);
        faultAt("guest #abcdefghi;");
        faultAt("guest #zzzzzzzzz;");
        faultAt("guest a; mark #abcdefghijklmnop is a;");
        fault("guest aaaaaaaa; guest aaaaaaa; guest zzzzzzzz;", -1);
        faultAt("guest a; guest #a;");
        faultAt("guest a; mark #a is a;");
        faultAt("guest a; mark m is a; guest #m;");
        faultAt("guest a; mark m is a; mark #m is a;");
        faultAt("guest a; mark m is #m;");
        faultAt("guest a; mark m is a; mark n is #m;");
        faultAt("guest a; mark m is #b; guest b;");
        faultAt("guest a; mark m is a #b;");
        faultAt("guest a; guest b; mark m is a b #a;");
        faultAt("guest a; above #b a by 1;");
        faultAt("guest a; above a #b by 1; guest b;");
        faultAt("guest a; above a a by 1 unless #a;");
        faultAt("guest a; above a a by 1 unless #m; mark m is a;");
        faultAt("guest a#1;");
        faultAt("#guesta;");
        faultAt("guest #1;");
    }

    private static void faultOfNumbers() {
        for (int weight = 1; weight <= 9; weight++) {
            fault("guest a;even a a by " + weight + ";", -1);
        }
        for (String bad : new String[] {"0", "00", "10", "11", "99", "4294967297", "18446744073709551617"}) {
            faultAt("guest a;even a a by #" + bad + ";");
        }
        for (int room = 0; room <= 3; room++) {
            fault("guest a;apart a a by 1 in " + room + ";", -1);
        }
        for (String bad : new String[] {"4", "9", "10", "4294967296", "18446744073709551616"}) {
            faultAt("guest a;apart a a by 1 in #" + bad + ";");
        }
        fault("guest a;even a a by 0000000000000000000000007;", -1);
        faultAt("guest a;even a a by 1#-;");
        faultAt("guest a;even a a by #-1;");
    }

    private static void faultOfTooMany() {
        StringBuilder guests = new StringBuilder();
        for (char c = 'a'; c <= 'j'; c++) {
            guests.append("guest ").append(c).append(';');
        }
        fault(guests.toString(), -1);
        faultAt(guests + " #guest k;");
        faultAt(guests + "#guest");
        fault(guests + "mark m is a b c d e f g h i j;", -1);
        faultAt(guests + "mark m is a b c d e f g h i j #j;");
        StringBuilder marks = new StringBuilder("guest a;");
        for (char c = 'v'; c <= 'z'; c++) {
            marks.append("mark ").append(c).append(" is a;");
        }
        fault(marks.toString(), -1);
        faultAt(marks + "#mark m is a;");
        fault(marks + "guest b;even a b by 1 unless z;", -1);
        StringBuilder rules = new StringBuilder("guest a;");
        for (int k = 0; k < 12; k++) {
            rules.append(new String[] {"above", "even", "apart"}[k % 3]).append(" a a by 1;");
        }
        fault(rules.toString(), -1);
        faultAt(rules + "#above a a by 1;");
        faultAt(rules + "#even a a by 1;");
        faultAt(rules + "#apart");
        fault(rules + "guest b;mark m is b;", -1);
    }

    private static void faultOfBytes() {
        faultAt("#?");
        faultAt("guest a#,");
        faultAt("guest a; #Guest b;");
        faultAt("guest a;#\t");
        faultAt("guest a;#\r\n");
        faultAt("guest a;#" + (char) 0);
        faultAt("guest a;#" + (char) 255);
        faultAt("guest a;#" + (char) (';' + 128));
        faultAt("guest #" + (char) ('a' + 128) + ";");
        faultAt("guest a #b ?;");
        faultAt("guest a; guest #a?");
        faultAt("guest a#? guest;");
        faultAt("guest #_a;");
    }

    private static void court() {
        FirstIn x = new FirstIn();
        Check.feed(x, "guest a; guest b; above a b by 3;");
        due("court", x.court(), 2);
        due("text is empty", x.count(4), 0);
        due("no more court", x.court(), -1);
        due("it stays", x.count(0), 2);
        x.room(0, 5);
        x.seat(0, 0, 1);
        x.sits(0, true);
        x.comes(1, false);
        x.rest(0, true);
        Check.feed(x, "guest c;;");
        due("a fault", x.court(), -1);
        due("text stays", x.count(4), 9);
        due("guests stay", x.count(0), 2);
        due("rules stay", x.count(2), 1);
        due("seat stays", x.guest(0, 3), 1);
        Check.feed(x, "guest c; guest d; guest e; mark m is d; even m c by 2; apart c d by 1;");
        due("another court", x.court(), 3);
        due("marks", x.count(1), 1);
        due("rules", x.count(2), 2);
        due("all come", x.count(5), 3);
        due("none is seated", x.count(6), 0);
        due("none sits", x.count(7), 0);
        due("none rests", x.count(8), 0);
        due("rooms stay", x.count(3), 1);
        due("no place", x.guest(0, 3), -1);
        due("no room", x.guest(0, 2), -1);
        Check.feed(x, "guest a;");
        due("a smaller court", x.court(), 1);
        due("guest 1 is gone", x.guest(1, 0), -1);
        due("rule 0 is gone", x.rule(0, 0), -1);
        due("mark 0 is gone", x.guest(0, 1), 0);
    }

    private static void room() {
        FirstIn x = new FirstIn();
        due("kind -1", x.room(-1, 5), -1);
        due("kind 5", x.room(5, 5), -1);
        due("0 places", x.room(0, 0), -1);
        due("-1 places", x.room(0, -1), -1);
        due("11 places", x.room(0, 11), -1);
        due("none", x.count(3), 0);
        due("room 0", x.room(0, 1), 0);
        due("room 1", x.room(4, 10), 1);
        due("kind great", x.room(Integer.MAX_VALUE, 1), -1);
        due("places least", x.room(1, Integer.MIN_VALUE), -1);
        due("room 2", x.room(2, 3), 2);
        due("room 3", x.room(3, 3), 3);
        due("a fifth", x.room(0, 3), -1);
        due("four", x.count(3), 4);
    }

    private static void guest() {
        FirstIn x = Check.court("guest a; guest b; guest c; mark m is b; mark n is c b; mark o is a;");
        due("comes", x.guest(2, 0), 1);
        due("marks of a", x.guest(0, 1), 4);
        due("marks of b", x.guest(1, 1), 3);
        due("marks of c", x.guest(2, 1), 2);
        due("no room", x.guest(0, 2), -1);
        due("no place", x.guest(0, 3), -1);
        due("sits not", x.guest(0, 4), 0);
        x.room(0, 2);
        x.room(1, 3);
        x.seat(1, 1, 2);
        x.sits(1, true);
        due("room", x.guest(1, 2), 1);
        due("place", x.guest(1, 3), 2);
        due("sits", x.guest(1, 4), 1);
        x.comes(0, false);
        due("comes not", x.guest(0, 0), 0);
        due("what 5", x.guest(0, 5), -1);
        due("what -1", x.guest(0, -1), -1);
        due("guest 3", x.guest(3, 0), -1);
        due("guest -1", x.guest(-1, 0), -1);
        due("guest great", x.guest(Integer.MAX_VALUE, 1), -1);
        due("guest least", x.guest(Integer.MIN_VALUE, 1), -1);
    }

    private static void rule(FirstIn x, int rule, int... want) {
        for (int what = 0; what < want.length; what++) {
            due("rule " + rule + " what " + what, x.rule(rule, what), want[what]);
        }
    }

    private static void rule() {
        FirstIn x = Check.court("guest a; guest b; guest c; guest d; mark m is a b c; mark n is c d;"
            + "above a b by 9; even m n by 4 in 3; apart m m by 1 unless n; above m n by 2 in 0 unless n;"
            + "above m m by 5; even n m by 3 unless m; above d d by 1; even m m by 7 unless n;");
        rule(x, 0, 0, 0, 1, 9, -1, -1, 1, 0);
        // (a c) (a d) (b c) (b d) (c d)
        rule(x, 1, 1, 100, 101, 4, 3, -1, 5, 0);
        // y is a or b: (b a) (c a) (a b) (c b), of which a b is told once
        rule(x, 2, 2, 100, 100, 1, -1, 1, 3, 0);
        rule(x, 3, 0, 100, 101, 2, 0, 1, 0, 0);
        rule(x, 4, 0, 100, 100, 5, -1, -1, 6, 0);
        rule(x, 5, 1, 101, 100, 3, -1, 0, 0, 0);
        rule(x, 6, 0, 3, 3, 1, -1, -1, 0, 0);
        rule(x, 7, 1, 100, 100, 7, -1, 1, 3, 0);
        x.comes(0, false);
        due("couples of those who don't come", x.rule(0, 6), 1);
        x.rest(1, true);
        due("rests", x.rule(1, 7), 1);
        due("what 8", x.rule(0, 8), -1);
        due("what -1", x.rule(0, -1), -1);
        due("rule 8", x.rule(8, 0), -1);
        due("rule -1", x.rule(-1, 0), -1);
        due("rule great", x.rule(Integer.MAX_VALUE, 6), -1);
        due("rule least", x.rule(Integer.MIN_VALUE, 6), -1);
    }

    private static void rest() {
        FirstIn x = Check.court("guest a; guest b; above a b by 9; above a b by 9;");
        x.room(0, 2);
        due("rests not already", x.rest(0, false), false);
        due("rests", x.rest(0, true), true);
        due("again", x.rest(0, true), false);
        due("one rests", x.count(8), 1);
        due("it counts no more", x.source(0, 0, 1), 1);
        due("the other too", x.rest(1, true), true);
        due("none counts", x.source(0, 0, 1), -1);
        due("no more", x.rest(0, false), true);
        due("it counts", x.source(0, 0, 1), 0);
        due("rule 2", x.rest(2, true), false);
        due("rule -1", x.rest(-1, true), false);
        due("rule great", x.rest(Integer.MAX_VALUE, true), false);
        due("one rests", x.count(8), 1);
    }

    private static void count() {
        FirstIn x = Check.court("guest a; guest b; guest c; mark m is a; above a b by 9; even a b by 1; apart a b by 1;");
        x.room(0, 4);
        x.room(0, 4);
        Check.feed(x, "guest");
        x.comes(2, false);
        x.seat(0, 1, 0);
        x.seat(1, 0, 0);
        x.sits(1, true);
        x.rest(2, true);
        int[] want = {3, 1, 3, 2, 5, 2, 2, 1, 1};
        for (int what = 0; what < want.length; what++) {
            due("count " + what, x.count(what), want[what]);
        }
        due("count 9", x.count(9), -1);
        due("count -1", x.count(-1), -1);
        due("count least", x.count(Integer.MIN_VALUE), -1);
    }
}
