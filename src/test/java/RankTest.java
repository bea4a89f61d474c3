/** Promises 19 to 24: rings of rank, rules to let rest, orders, rounds and heaps; answers by hand from the document. */
public final class RankTest {
    private static final String SIX = "guest a; guest b; guest c; guest d; guest e; guest f;";
    private static final Check CHECK = new Check();

    private RankTest() {
    }

    public static void main(String[] args) {
        ring();
        quarrels();
        toRest();
        order();
        rounds();
        roundsTogether();
        few();
        noSuchRoom();
        whatStandsAfterAChange();
        CHECK.close("RankTest");
    }

    private static void due(String what, long got, long want) {
        CHECK.due(what, got, want);
    }

    private static FirstIn inRoom(String text) {
        FirstIn x = Check.court(text);
        x.room(0, 6);
        return x;
    }

    private static void ring(FirstIn x, String what, int... want) {
        due(what + " how many", x.ring(0, -1), want.length == 0 ? -1 : want.length);
        for (int k = 0; k < want.length; k++) {
            due(what + " " + k, x.ring(0, k), want[k]);
        }
        due(what + " behind", x.ring(0, want.length), -1);
        due(what + " k -2", x.ring(0, -2), -1);
        due(what + " k great", x.ring(0, Integer.MAX_VALUE), -1);
    }

    private static void ring() {
        ring(inRoom(SIX), "no rules");
        ring(inRoom(SIX + "above a b by 1; above b c by 1; above a c by 1; above d c by 2;"), "none");
        ring(inRoom(SIX + "even a b by 1; apart a b by 1; above a b by 1;"), "of above alone");
        ring(inRoom(SIX + "above f e by 1; above e f by 1; above a b by 1; above b c by 1; above c a by 1;"), "shortest", 4,
            5);
        ring(inRoom(SIX + "above d b by 1; above b f by 1; above f d by 1;"), "begins with the least", 1, 5, 3);
        ring(inRoom(SIX + "above a f by 1; above a e by 1; above f b by 1; above e c by 1; above c a by 1;"
            + "above b a by 1;"), "then the second", 0, 4, 2);
        ring(inRoom(SIX + "above a d by 1; above d c by 1; above d b by 1; above b a by 1; above c a by 1;"), "then the third",
            0, 3, 1);
        ring(inRoom(SIX + "above a b by 1; above b c by 1; above c d by 1; above d e by 1; above e f by 1; above f a by 1;"),
            "of all", 0, 1, 2, 3, 4, 5);
        ring(inRoom("guest a; guest b; guest c; guest d; mark m is a b c d; above m m by 1;"), "by marks", 0, 1);
        ring(inRoom(SIX + "above a b by 1; above b a by 1 in 1;"), "not in this room");
        FirstIn x = inRoom(SIX + "above a b by 1; above b a by 1; above c d by 1; above d e by 1; above e c by 1;");
        ring(x, "two", 0, 1);
        x.rest(1, true);
        ring(x, "one rests", 2, 3, 4);
        x.comes(4, false);
        ring(x, "one comes not");
        StringBuilder ten = new StringBuilder();
        for (char c = 'a'; c <= 'j'; c++) {
            ten.append("guest ").append(c).append(';');
        }
        for (char c = 'a'; c <= 'j'; c++) {
            ten.append("above ").append(c).append(' ').append(c == 'a' ? 'j' : (char) (c - 1)).append(" by 1;");
        }
        ring(inRoom(ten.toString()), "of ten", 0, 9, 8, 7, 6, 5, 4, 3, 2, 1);
    }

    private static void quarrels() {
        FirstIn x = inRoom(SIX + "mark m is a b c; above m m by 1; above d e by 1; above e d by 1 in 1; above a f by 1;");
        due("three", x.quarrels(0), 3);
        x.room(0, 6);
        due("four in room 1", x.quarrels(1), 4);
        x.comes(0, false);
        due("one comes not", x.quarrels(0), 1);
        x.rest(0, true);
        due("the rule rests", x.quarrels(0), 0);
        due("room 2", x.quarrels(2), -1);
        due("room -1", x.quarrels(-1), -1);
    }

    private static void toRest(String text, int bits, int weight) {
        FirstIn x = inRoom(text);
        due("bits of " + text, x.toRest(0, 0), bits);
        due("weight of " + text, x.toRest(0, 1), weight);
    }

    private static void toRest() {
        toRest(SIX, 0, 0);
        toRest(SIX + "above a b by 1; above b c by 1;", 0, 0);
        toRest(SIX + "above a b by 5; above b a by 4;", 2, 4);
        toRest(SIX + "above a b by 4; above b a by 4;", 1, 4);
        // The edge of a over b is given twice: 2 and 2, or 4 alone; the fewest
        toRest(SIX + "above a b by 2; above a b by 2; above b a by 4;", 4, 4);
        toRest(SIX + "above a b by 2; above a b by 2; above b a by 5;", 3, 4);
        // One rule in two rings is lighter than one of each
        toRest(SIX + "mark m is b c; above b a by 3; above c a by 3; above a m by 5;", 4, 5);
        toRest(SIX + "mark m is b c; above b a by 3; above c a by 3; above a m by 7;", 3, 6);
        toRest(SIX + "mark m is b c; above b a by 3; above c a by 3; above a m by 6;", 4, 6);
        toRest(SIX + "mark m is a b c d e f; above m m by 9; above a b by 1;", 1, 9);
        toRest(SIX + "even a b by 1; above a b by 4; apart a b by 1; above b a by 3;", 8, 3);
        toRest(SIX + "above a b by 1 in 1; above a b by 4; above b a by 3;", 4, 3);
        toRest(SIX + "above a b by 1; above b c by 1; above c a by 1; above c b by 1;", 2, 1);
        FirstIn x = inRoom(SIX + "above a b by 1; above b a by 2; above b a by 3;");
        due("one against two", x.toRest(0, 0), 1);
        x.rest(0, true);
        due("it rests already", x.toRest(0, 0), 0);
        due("weight", x.toRest(0, 1), 0);
        x.rest(0, false);
        x.comes(1, false);
        due("b comes not", x.toRest(0, 0), 0);
        due("what 2", x.toRest(0, 2), -1);
        due("what -1", x.toRest(0, -1), -1);
        due("room 1", x.toRest(1, 0), -1);
        due("room least", x.toRest(Integer.MIN_VALUE, 0), -1);
        StringBuilder twelve = new StringBuilder("guest a; guest b;");
        for (int k = 0; k < 12; k++) {
            twelve.append(k % 2 == 0 ? "above a b by 3;" : "above b a by 3;");
        }
        toRest(twelve.toString(), 1 + 4 + 16 + 64 + 256 + 1024, 18);
    }

    private static void order(FirstIn x, String what, int... want) {
        for (int k = 0; k < want.length; k++) {
            due(what + " " + k, x.order(0, k), want[k]);
        }
        due(what + " behind", x.order(0, want.length), -1);
        due(what + " -1", x.order(0, -1), -1);
        due(what + " great", x.order(0, Integer.MAX_VALUE), -1);
    }

    private static void order() {
        order(inRoom(SIX), "no rules", 0, 1, 2, 3, 4, 5);
        FirstIn x = inRoom(SIX + "above f a by 1; above e f by 1; above c b by 2; above b d by 1 in 1; even a f by 9;");
        order(x, "some", 2, 1, 3, 4, 5, 0);
        x.comes(5, false);
        order(x, "without f", 0, 2, 1, 3, 4);
        x.rest(2, true);
        order(x, "without c over b", 0, 1, 2, 3, 4);
        order(inRoom(SIX + "above f e by 1; above e f by 1;"), "a ring");
        FirstIn nobody = inRoom("guest a;");
        nobody.comes(0, false);
        order(nobody, "nobody");
    }

    private static void rounds(String rules, int... byDoors) {
        FirstIn x = inRoom(SIX + rules);
        for (int doors = 1; doors <= 4; doors++) {
            due(doors + " doors with " + rules, x.rounds(0, doors), byDoors[doors - 1]);
        }
        due("0 doors", x.rounds(0, 0), -1);
        due("5 doors", x.rounds(0, 5), -1);
        due("doors least", x.rounds(0, Integer.MIN_VALUE), -1);
    }

    private static void rounds() {
        rounds("", 6, 3, 2, 2);
        rounds("above a b by 1; above b c by 1; above c d by 1;", 6, 4, 4, 4);
        rounds("above a b by 1; above b a by 1;", -1, -1, -1, -1);
        rounds("above a b by 1; above b c by 1; above c a by 1 in 1;", 6, 3, 3, 3);
        // The long way must begin at once: e f behind d, a b c free
        rounds("above d e by 1; above e f by 1;", 6, 3, 3, 3);
        rounds("mark m is a b c; mark n is d e f; above m n by 1;", 6, 4, 2, 2);
        rounds("apart a b by 1; apart c d by 4;", 6, 3, 2, 2);
        FirstIn x = inRoom(SIX + "above a b by 1; above b c by 1;");
        x.comes(1, false);
        due("without b", x.rounds(0, 4), 2);
        x.comes(0, false);
        due("without a and b", x.rounds(0, 4), 1);
        x.comes(2, false);
        x.comes(3, false);
        x.comes(4, false);
        x.comes(5, false);
        due("nobody", x.rounds(0, 4), 0);
    }

    private static void roundsTogether() {
        rounds("even a b by 1;", -1, 3, 2, 2);
        rounds("even a b by 1; even b c by 1;", -1, -1, 2, 2);
        rounds("even a b by 1; even b c by 1; even c d by 1;", -1, -1, -1, 2);
        rounds("even a b by 1; even c d by 1; even e f by 1;", -1, 3, 3, 2);
        rounds("mark m is a b c d e; even m m by 1;", -1, -1, -1, -1);
        rounds("even a b by 1; above a b by 1;", -1, -1, -1, -1);
        rounds("even a b by 1; even b c by 1; above a c by 1;", -1, -1, -1, -1);
        // No ring of rank, but a ring of groups
        rounds("even a b by 1; even c d by 1; above a c by 1; above d b by 1;", -1, -1, -1, -1);
        // b with another one, then a and f, then c with another one
        rounds("even a f by 1; above b a by 1; above f c by 1;", -1, 3, 3, 3);
        rounds("even a b by 1; even b c by 1; even d e by 1; even e f by 1;", -1, -1, 2, 2);
        FirstIn x = inRoom(SIX + "even a b by 1; even b c by 1; above a c by 1 in 1;");
        x.comes(1, false);
        due("what hung together by b", x.rounds(0, 1), 5);
    }

    private static void few(String rules, int heaps, int... least) {
        FirstIn x = inRoom(SIX + rules);
        due("heaps of " + rules, x.few(0, -1), heaps);
        for (int guest = 0; guest < least.length; guest++) {
            due("heap of " + guest + " with " + rules, x.few(0, guest), least[guest]);
        }
    }

    private static void few() {
        few("", 1, 0, 0, 0, 0, 0, 0);
        few("above a b by 1; above b c by 1; even a c by 1; apart a b by 1;", 1, 0, 0, 0, 0, 0, 0);
        few("above a b by 1; above b a by 1;", 2, 0, 1, 0, 0, 0, 0);
        few("above c d by 1; above d c by 1;", 2, 0, 0, 0, 3, 0, 0);
        few("above a b by 1; above b c by 1; above c a by 1;", 2, 0, 0, 2, 0, 0, 0);
        few("above a b by 1; even b a by 1;", 2, 0, 1, 0, 0, 0, 0);
        few("above a b by 1; even b c by 1;", 1, 0, 0, 0, 0, 0, 0);
        few("mark m is a b c; above m m by 1;", 3, 0, 1, 2, 0, 0, 0);
        few("mark m is a b c d e f; above m m by 1;", 6, 0, 1, 2, 3, 4, 5);
        // a may go with b alone or with c, but then c must be with nobody of d e
        few("mark m is d e; above c m by 1; above m c by 1; above a d by 1; above d a by 1;", 2, 0, 0, 0, 3, 3, 0);
        // The first heap in reach for e would need a third one later
        few("above a b by 1; above b a by 1; above e f by 1; above f e by 1; above a f by 1; above f a by 1;", 2, 0, 1, 0, 0,
            0, 1);
        FirstIn x = inRoom(SIX + "mark m is a b c; above m m by 1; above d e by 1; above e d by 1 in 1;");
        x.room(1, 10);
        due("room 1", x.few(1, 4), 1);
        x.comes(0, false);
        due("without a", x.few(0, -1), 2);
        due("b is the least", x.few(0, 1), 1);
        due("d", x.few(0, 3), 1);
        due("c", x.few(0, 2), 2);
        due("a comes not", x.few(0, 0), -1);
        due("guest 6", x.few(0, 6), -1);
        due("guest -2", x.few(0, -2), -1);
        due("guest great", x.few(0, Integer.MAX_VALUE), -1);
        x.rest(0, true);
        due("it rests", x.few(0, -1), 1);
        FirstIn nobody = inRoom("guest a;");
        nobody.comes(0, false);
        due("nobody", nobody.few(0, -1), 0);
    }

    private static void noSuchRoom() {
        FirstIn x = inRoom(SIX + "above a b by 1; above b a by 1;");
        for (int room : new int[] {-1, 1, 4, Integer.MAX_VALUE, Integer.MIN_VALUE}) {
            due("ring in " + room, x.ring(room, -1), -1);
            due("ring in " + room, x.ring(room, 0), -1);
            due("quarrels in " + room, x.quarrels(room), -1);
            due("order in " + room, x.order(room, 0), -1);
            due("rounds in " + room, x.rounds(room, 1), -1);
            due("few in " + room, x.few(room, -1), -1);
            due("few in " + room, x.few(room, 0), -1);
        }
    }

    /** What was found out must not outlive a change. */
    private static void whatStandsAfterAChange() {
        FirstIn x = inRoom(SIX + "above a b by 4; above b a by 3;");
        due("to rest", x.toRest(0, 0), 2);
        x.rest(1, true);
        due("it rests", x.toRest(0, 0), 0);
        x.rest(1, false);
        due("no more", x.toRest(0, 0), 2);
        x.comes(0, false);
        due("a comes not", x.toRest(0, 0), 0);
        x.comes(0, true);
        due("a comes", x.toRest(0, 0), 2);
        Check.feed(x, "guest a; guest b; above a b by 2; above b a by 3;");
        x.court();
        due("another court", x.toRest(0, 0), 1);
        due("its weight", x.toRest(0, 1), 2);
        Check.feed(x, "guest a; guest b; above a b by 2; above b a by 1;");
        x.court();
        due("a third court", x.toRest(0, 0), 2);
    }
}
