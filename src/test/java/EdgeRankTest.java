/** Promises 19 to 24 and the third part of 'Terms': rings, rules to let rest, orders, rounds and heaps. */
public final class EdgeRankTest {
    private static final Check CHECK = new Check();

    private EdgeRankTest() {
    }

    public static void main(String[] args) {
        ringsOfEachLength();
        theShortestRing();
        theFirstRing();
        ringsOfNone();
        couplesBothWays();
        quarrelsOfNone();
        theLeastWeightToRest();
        theFewestToRest();
        theLeastBitsToRest();
        toRestOfNone();
        theOrder();
        theLeastThatMayCome();
        orderOfNone();
        roundsThroughDoors();
        earlierRounds();
        roundsTogether();
        roundsOfNone();
        howManyHeaps();
        heapsByEven();
        theFirstWay();
        fewOfNone();
        rulesThatCount();
        rulesOfEvenThatCount();
        nobodyComes();
        roomsThatAreNone();
        CHECK.close("EdgeRankTest");
    }

    private static void due(String what, long got, long want) {
        CHECK.due(what, got, want);
    }

    private static FirstIn ranked(int guests, String rules) {
        return Edge.inRoom(Edge.guests(guests) + rules, Edge.ROW, 1);
    }

    /** Each of so many guests above the next one, and so on; rules by 1. */
    private static String chain(String names) {
        StringBuilder rules = new StringBuilder();
        for (int k = 0; k + 1 < names.length(); k++) {
            rules.append("above ").append(names.charAt(k)).append(' ').append(names.charAt(k + 1)).append(" by 1;");
        }
        return rules.toString();
    }

    /** A ring of these, and what is beyond its ends. */
    private static void ring(String what, FirstIn x, int... want) {
        due(what + ", guests", x.ring(0, -1), want.length == 0 ? -1 : want.length);
        for (int k = 0; k < want.length; k++) {
            due(what + ", " + k, x.ring(0, k), want[k]);
        }
        for (int k : Edge.beyond(-1, want.length - 1)) {
            due(what + ", " + k, x.ring(0, k), -1);
        }
    }

    private static void ringsOfEachLength() {
        CHECK.sentence("Promise 19: how many guests (k NONE), or the k-th; NONE if there is none, or none such");
        ring("one guest", ranked(1, "above a a by 1;"));
        ring("no rules", ranked(10, ""));
        String names = "abcdefghij";
        for (int length = 2; length <= 10; length++) {
            String row = names.substring(0, length);
            int[] want = new int[length];
            for (int k = 0; k < length; k++) {
                want[k] = k;
            }
            ring("a chain of " + length, ranked(10, chain(row)));
            ring("a ring of " + length, ranked(10, chain(row + "a")), want);
            int[] back = new int[length];
            for (int k = 1; k < length; k++) {
                back[k] = length - k;
            }
            ring("turned", ranked(10, chain(new StringBuilder(row + "a").reverse().toString())), back);
        }
        ring("the last two", ranked(10, chain("iji")), 8, 9);
        ring("of even", ranked(10, "even a b by 1;" + chain("ab")));
        ring("of apart", ranked(10, "apart a b by 1;" + chain("ab")));
    }

    private static void theShortestRing() {
        CHECK.sentence("Terms 3: A RING of rank: each ABOVE the next one, the last ABOVE the first: the shortest");
        ring("2 and 3", ranked(5, chain("abca") + chain("ded")), 3, 4);
        ring("3 and 4", ranked(7, chain("abcda") + chain("efge")), 4, 5, 6);
        ring("9 and 10", ranked(10, chain("abcdefghija") + chain("ac")), 0, 2, 3, 4, 5, 6, 7, 8, 9);
        ring("a short cut", ranked(4, chain("abcda") + chain("ca")), 0, 1, 2);
        ring("not where the least guest is", ranked(4, chain("abca") + chain("cdc")), 2, 3);
    }

    private static void theFirstRing() {
        CHECK.sentence("Terms 3: of like ones the first by its first guest, then the second, and so on");
        ring("the first guest", ranked(6, chain("fef") + chain("dcd") + chain("bab")), 0, 1);
        ring("the second guest", ranked(4, chain("ada") + chain("aba") + chain("aca")), 0, 1);
        ring("of three, the second", ranked(5, chain("aeda") + chain("acba")), 0, 2, 1);
        ring("the third", ranked(5, chain("abea") + chain("bda") + chain("bca")), 0, 1, 2);
        ring("the fourth", ranked(6, chain("abcfa") + chain("cda") + chain("cea")), 0, 1, 2, 3);
        ring("the less second guest leads nowhere", ranked(6, chain("ab") + chain("acfa") + chain("bd")), 0, 2, 5);
        ring("the last can be the less", ranked(10, chain("bjab") + chain("chbc")), 0, 1, 9);
    }

    private static void ringsOfNone() {
        CHECK.sentence("Promise 19: NONE if there is none such");
        FirstIn x = ranked(2, chain("aba"));
        for (int room : Edge.beyond(0, 0)) {
            due("room " + room, x.ring(room, -1), -1);
            due("room " + room + ", 0", x.ring(room, 0), -1);
        }
        ring("without guests", noGuests());
    }

    private static FirstIn noGuests() {
        FirstIn x = new FirstIn();
        x.room(Edge.ROW, 1);
        return x;
    }

    private static void couplesBothWays() {
        CHECK.sentence("Promise 20: How many couples of guests are ABOVE one another both ways");
        due("none", ranked(10, "").quarrels(0), 0);
        due("one way", ranked(2, chain("ab")).quarrels(0), 0);
        due("both", ranked(2, chain("aba")).quarrels(0), 1);
        due("twice", ranked(2, chain("ababa")).quarrels(0), 1);
        due("a ring of three", ranked(3, chain("abca")).quarrels(0), 0);
        due("the last two", ranked(10, chain("iji")).quarrels(0), 1);
        due("itself", ranked(1, "above a a by 1;above a a by 1;").quarrels(0), 0);
        due("even", ranked(2, "even a b by 1;above a b by 1;").quarrels(0), 0);
        for (int guests = 1; guests <= 10; guests++) {
            FirstIn x = Edge.inRoom(Edge.marked(guests) + "above m m by 1;", Edge.ROW, 1);
            due("all " + guests, x.quarrels(0), guests * (guests - 1) / 2);
        }
    }

    private static void quarrelsOfNone() {
        CHECK.sentence("Promise 20: NONE if there is no such ROOM");
        FirstIn x = ranked(2, chain("aba"));
        for (int room : Edge.beyond(0, 0)) {
            due("room " + room, x.quarrels(room), -1);
        }
        due("without guests", noGuests().quarrels(0), 0);
    }

    private static void toRest(String rules, int bits, int weight) {
        FirstIn x = Edge.inRoom(Edge.marked(4) + rules, Edge.ROW, 1);
        due("bits of " + rules, x.toRest(0, 0), bits);
        due("weight of " + rules, x.toRest(0, 1), weight);
    }

    private static void theLeastWeightToRest() {
        CHECK.sentence("Terms 3: TO LET REST: so that without them there is no RING there: with the least WEIGHT in all");
        toRest("", 0, 0);
        toRest(chain("abcd"), 0, 0);
        toRest("even a b by 1;apart a b by 1;above a b by 2;", 0, 0);
        FirstIn ten = ranked(10, chain("abcdefghij") + "above j a by 9;");
        due("a ring of ten", ten.toRest(0, 0), 1);
        ten.rest(9, true);
        due("a chain of ten", ten.toRest(0, 0), 0);
        due("a chain of ten, weight", ten.toRest(0, 1), 0);
        toRest("above a b by 5;above b a by 4;", 2, 4);
        toRest("above a b by 4;above b a by 5;", 1, 4);
        toRest("above a b by 8;above b a by 9;", 1, 8);
        // Two of them, 6 in all, against one of 5, 6 and 7
        toRest("above b a by 3;above c a by 3;mark n is b c;above a n by 5;", 4, 5);
        toRest("above b a by 3;above c a by 3;mark n is b c;above a n by 7;", 3, 6);
        toRest("above m m by 9;above m m by 1;", 3, 10);
        toRest("above m m by 9;".repeat(12), 4095, 108);
        toRest("above a b by 1;" + "even a b by 1;".repeat(10) + "above b a by 1;", 1, 1);
        toRest("even a b by 1;".repeat(10) + "above a b by 2;above b a by 1;", 2048, 1);
        toRest("above a b by 2;".repeat(4) + "above b a by 9;", 15, 8);
        toRest("above a b by 2;".repeat(5) + "above b a by 9;", 32, 9);
    }

    private static void theFewestToRest() {
        CHECK.sentence("Terms 3: of like ones the fewest");
        toRest("above b a by 3;above c a by 3;mark n is b c;above a n by 6;", 4, 6);
        toRest("above a b by 2;above a b by 2;above b a by 4;", 4, 4);
        toRest("above a b by 1;above a b by 3;above b a by 2;above b a by 2;", 3, 4);
        toRest("above a b by 1;above a b by 1;above a b by 1;above b a by 1;above b a by 2;", 24, 3);
    }

    private static void theLeastBitsToRest() {
        CHECK.sentence("Terms 3: of like ones the least as bits");
        toRest("above a b by 4;above b a by 4;", 1, 4);
        toRest("above a b by 2;above b a by 2;above b a by 2;above a b by 2;", 6, 4);
        toRest("above c a by 3;above a b by 3;above b c by 3;", 1, 3);
        toRest("above a b by 4;above b a by 4;above c d by 4;above d c by 4;", 5, 8);
        toRest("above a b by 1;above a b by 3;above b a by 3;above b a by 1;", 3, 4);
    }

    private static void toRestOfNone() {
        CHECK.sentence("Promise 21: RULES as bits (what 0), or their WEIGHT in all (1); NONE for others, or if no such ROOM");
        FirstIn x = ranked(2, "above a b by 4;above b a by 3;");
        due("bits", x.toRest(0, 0), 2);
        due("weight", x.toRest(0, 1), 3);
        for (int what : Edge.beyond(0, 1)) {
            due("what " + what, x.toRest(0, what), -1);
        }
        for (int room : Edge.beyond(0, 0)) {
            due("room " + room, x.toRest(room, 0), -1);
            due("room " + room + ", weight", x.toRest(room, 1), -1);
        }
        due("without guests", noGuests().toRest(0, 0), 0);
        due("without guests, weight", noGuests().toRest(0, 1), 0);
        x.rest(1, true);
        due("it rests already", x.toRest(0, 0), 0);
        due("it rests already, weight", x.toRest(0, 1), 0);
    }

    private static void order(String what, FirstIn x, int... want) {
        for (int k = 0; k < want.length; k++) {
            due(what + ", " + k, x.order(0, k), want[k]);
        }
        for (int k : Edge.beyond(0, want.length - 1)) {
            due(what + ", " + k, x.order(0, k), -1);
        }
    }

    private static void theOrder() {
        CHECK.sentence("Promise 22: The k-th in the ORDER; NONE if there is a RING of rank, or none such");
        order("one", ranked(1, ""), 0);
        order("ten", ranked(10, ""), 0, 1, 2, 3, 4, 5, 6, 7, 8, 9);
        order("a chain", ranked(10, chain("jihgfedcba")), 9, 8, 7, 6, 5, 4, 3, 2, 1, 0);
        order("a ring of ten", ranked(10, chain("abcdefghija")));
        order("a ring of two, the last", ranked(10, chain("iji")));
        order("one way", ranked(10, chain("ji")), 0, 1, 2, 3, 4, 5, 6, 7, 9, 8);
        FirstIn x = ranked(10, chain("abcda"));
        x.comes(3, false);
        order("without a ring any more", x, 0, 1, 2, 4, 5, 6, 7, 8, 9);
    }

    private static void theLeastThatMayCome() {
        CHECK.sentence("Terms 3: none ahead of one who is ABOVE, again and again the least that may come");
        order("at once behind", ranked(5, chain("da")), 1, 2, 3, 0, 4);
        order("behind two", ranked(5, chain("da") + chain("ba")), 1, 2, 3, 0, 4);
        order("two free at once", ranked(5, "mark n is a b;above e n by 1;"), 2, 3, 4, 0, 1);
        order("even is no rank", ranked(3, "even c a by 9;apart c a by 9;"), 0, 1, 2);
    }

    private static void orderOfNone() {
        CHECK.sentence("Promise 22: NONE if there is none such");
        FirstIn x = ranked(2, "");
        for (int room : Edge.beyond(0, 0)) {
            due("room " + room, x.order(room, 0), -1);
        }
        due("without guests", noGuests().order(0, 0), -1);
    }

    private static void rounds(String what, FirstIn x, int... byDoors) {
        for (int doors = 1; doors <= 4; doors++) {
            due(what + " through " + doors, x.rounds(0, doors), byDoors[doors - 1]);
        }
        for (int doors : Edge.beyond(1, 4)) {
            due(what + " through " + doors, x.rounds(0, doors), -1);
        }
    }

    private static void roundsThroughDoors() {
        CHECK.sentence("Promise 23, Terms 3: d doors (1 .. 4): in each ROUND at most d go in at once: the"
            + " least number of ROUNDS");
        for (int guests = 1; guests <= 10; guests++) {
            rounds(guests + " guests", ranked(guests, ""), guests, (guests + 1) / 2, (guests + 2) / 3, (guests + 3) / 4);
        }
        FirstIn x = ranked(5, "");
        x.comes(4, false);
        rounds("one of five comes not", x, 4, 2, 2, 1);
        rounds("apart is no rank", ranked(4, "apart a b by 9;"), 4, 2, 2, 1);
    }

    private static void earlierRounds() {
        CHECK.sentence("Terms 3: one who is ABOVE another goes in an earlier ROUND");
        rounds("a couple", ranked(2, chain("ab")), 2, 2, 2, 2);
        rounds("ten in a chain", ranked(10, chain("abcdefghij")), 10, 10, 10, 10);
        rounds("a chain of five, five free", ranked(10, chain("abcde")), 10, 5, 5, 5);
        rounds("one above four", ranked(5, "mark n is b c d e;above a n by 1;"), 5, 3, 3, 2);
        rounds("one above five", ranked(6, "mark n is b c d e f;above a n by 1;"), 6, 4, 3, 3);
        rounds("four above one", ranked(5, "mark n is b c d e;above n a by 1;"), 5, 3, 3, 2);
        // The least that may come first would take a round too many: d must be among the first two
        rounds("who leads many", ranked(6, chain("def")), 6, 3, 3, 3);
    }

    private static void roundsTogether() {
        CHECK.sentence("Terms 3: couples of even, and what hangs together by them, in the same");
        rounds("two", ranked(2, "even a b by 1;"), -1, 1, 1, 1);
        rounds("three", ranked(3, "even a b by 1;even b c by 1;"), -1, -1, 1, 1);
        rounds("four", ranked(4, "even a b by 1;even b c by 1;even c d by 1;"), -1, -1, -1, 1);
        rounds("five", ranked(5, "even a b by 1;even b c by 1;even c d by 1;even d e by 1;"), -1, -1, -1, -1);
        rounds("five by the last", ranked(5, "even a e by 1;even e b by 1;even b d by 1;even d c by 1;"), -1, -1, -1, -1);
        rounds("two by a third", ranked(3, "even a c by 1;even b c by 1;"), -1, -1, 1, 1);
        rounds("two by the tenth", onlyThree("even a j by 1;even b j by 1;"), -1, -1, 1, 1);
        rounds("two, and the tenth", onlyThree("even a b by 1;"), -1, 2, 1, 1);
        rounds("two and two", ranked(4, "even a b by 1;even c d by 1;"), -1, 2, 2, 1);
        rounds("two and one", ranked(3, "even a b by 1;"), -1, 2, 1, 1);
        rounds("two, one above", ranked(3, "even a b by 1;above c b by 1;"), -1, 2, 2, 2);
    }

    /** Of ten guests a, b and j alone come. */
    private static FirstIn onlyThree(String rules) {
        FirstIn x = ranked(10, rules);
        for (int guest = 2; guest < 9; guest++) {
            x.comes(guest, false);
        }
        return x;
    }

    private static void roundsOfNone() {
        CHECK.sentence("Promise 23: NONE if it can't be, or there are none such");
        rounds("a ring", ranked(2, chain("aba")), -1, -1, -1, -1);
        rounds("a ring of ten", ranked(10, chain("abcdefghija")), -1, -1, -1, -1);
        rounds("even and above", ranked(2, "even a b by 1;above a b by 1;"), -1, -1, -1, -1);
        rounds("above within what hangs together", ranked(3, "even a b by 1;even b c by 1;above c a by 1;"), -1, -1, -1, -1);
        rounds("two groups around", ranked(4, "even a b by 1;even c d by 1;above a c by 1;above d b by 1;"), -1, -1, -1, -1);
        FirstIn x = ranked(2, "");
        for (int room : Edge.beyond(0, 0)) {
            due("room " + room, x.rounds(room, 1), -1);
        }
        rounds("without guests", noGuests(), 0, 0, 0, 0);
    }

    private static void few(String what, FirstIn x, int... least) {
        int heaps = 0;
        for (int guest = 0; guest < least.length; guest++) {
            due(what + ", heap of " + guest, x.few(0, guest), least[guest]);
            heaps += least[guest] == guest ? 1 : 0;
        }
        due(what + ", heaps", x.few(0, -1), heaps);
        for (int guest : Edge.beyond(-1, least.length - 1)) {
            due(what + ", guest " + guest, x.few(0, guest), -1);
        }
    }

    private static void howManyHeaps() {
        CHECK.sentence("Promise 24, Terms 3: FEW: the fewest heaps, so that in none of them there is a RING of rank");
        few("one", ranked(1, ""), 0);
        few("ten", ranked(10, ""), 0, 0, 0, 0, 0, 0, 0, 0, 0, 0);
        few("a chain of ten", ranked(10, chain("abcdefghij")), 0, 0, 0, 0, 0, 0, 0, 0, 0, 0);
        few("a ring of ten", ranked(10, chain("abcdefghija")), 0, 0, 0, 0, 0, 0, 0, 0, 0, 9);
        few("a ring of nine", ranked(10, chain("abcdefghia")), 0, 0, 0, 0, 0, 0, 0, 0, 8, 0);
        few("a ring of two", ranked(2, chain("aba")), 0, 1);
        for (int guests = 2; guests <= 10; guests++) {
            int[] alone = new int[guests];
            for (int guest = 0; guest < guests; guest++) {
                alone[guest] = guest;
            }
            few("all " + guests, Edge.inRoom(Edge.marked(guests) + "above m m by 1;", Edge.ROW, 1), alone);
        }
    }

    private static void heapsByEven() {
        CHECK.sentence("Terms 3: or a couple of even of which one is ABOVE the other");
        few("even alone", ranked(2, "even a b by 9;"), 0, 0);
        few("above alone", ranked(2, "above a b by 9;"), 0, 0);
        few("both", ranked(2, "even a b by 1;above a b by 9;"), 0, 1);
        few("both, turned about", ranked(2, "even a b by 1;above b a by 9;"), 0, 1);
        few("even told the other way", ranked(3, "even c a by 1;above a c by 9;"), 0, 0, 2);
        few("not what hangs together", ranked(3, "even a b by 1;even b c by 1;above a c by 1;"), 0, 0, 0);
        few("even with two", ranked(3, "even a c by 1;even b c by 1;above a c by 1;"), 0, 0, 2);
        few("even with two, the other", ranked(3, "even a c by 1;even b c by 1;above c b by 1;"), 0, 0, 2);
        few("apart", ranked(2, "apart a b by 1;above a b by 9;"), 0, 0);
        FirstIn x = Edge.inRoom(Edge.marked(10) + "even m m by 1;" + chain("ab") + chain("bc") + chain("ij"), Edge.ROW, 1);
        few("of ten", x, 0, 1, 0, 0, 0, 0, 0, 0, 0, 1);
    }

    private static void theFirstWay() {
        CHECK.sentence("Terms 3: the first such way: guest 0's heap, then the next one's, with the least heap's number first");
        few("c and d with a", ranked(4, chain("aba") + chain("bdb")), 0, 1, 0, 0);
        few("c not with a", ranked(4, chain("aba") + chain("aca")), 0, 1, 1, 0);
        few("c not with b", ranked(4, chain("aba") + chain("cdc") + chain("ada") + chain("bcb")), 0, 1, 0, 1);
        few("d alone", ranked(4, chain("ada") + chain("cdc") + chain("bdb")), 0, 0, 0, 3);
        few("e with b", ranked(5, chain("aba") + chain("bcb") + chain("aca") + chain("aea")), 0, 1, 2, 0, 1);
        // d goes with neither b nor c: with c beside a it would need a heap of its own.
        few("c goes back to b", ranked(4, chain("aba") + chain("bdb") + chain("cdc")), 0, 1, 1, 0);
        // With b beside a there would be none for d, which goes with neither b nor c.
        few("b begins a heap early", ranked(4, chain("aca") + chain("cdc") + chain("bdb")), 0, 1, 1, 0);
    }

    private static void fewOfNone() {
        CHECK.sentence("Promise 24: NONE if there are none such, or it doesn't COME");
        FirstIn x = ranked(3, chain("aba"));
        for (int room : Edge.beyond(0, 0)) {
            due("room " + room, x.few(room, -1), -1);
            due("room " + room + ", guest 0", x.few(room, 0), -1);
        }
        x.comes(0, false);
        due("comes not", x.few(0, 0), -1);
        due("the least is b", x.few(0, 2), 1);
        due("one heap", x.few(0, -1), 1);
        due("without guests", noGuests().few(0, -1), 0);
        due("without guests, guest 0", noGuests().few(0, 0), -1);
    }

    private static void rulesThatCount() {
        CHECK.sentence("Promises 19 to 24, Terms 2: A RULE counts in a ROOM, if it tells none or that one,"
            + " doesn't REST, both COME");
        for (int room = 0; room < 4; room++) {
            FirstIn x = Check.court("guest a;guest b;guest c;above a b by 1;above b a by 1 in " + room + ";");
            for (int k = 0; k < 4; k++) {
                x.room(Edge.ROW, 1);
            }
            for (int k = 0; k < 4; k++) {
                boolean there = k == room;
                due("ring in " + k, x.ring(k, -1), there ? 2 : -1);
                due("quarrels in " + k, x.quarrels(k), there ? 1 : 0);
                due("to rest in " + k, x.toRest(k, 0), there ? 1 : 0);
                due("order in " + k, x.order(k, 0), there ? -1 : 0);
                due("rounds in " + k, x.rounds(k, 4), there ? -1 : 2);
                due("few in " + k, x.few(k, -1), there ? 2 : 1);
            }
            for (int change = 0; change < 2; change++) {
                if (change == 0) {
                    x.rest(1, true);
                } else {
                    x.rest(1, false);
                    x.comes(1, false);
                }
                due("ring no more", x.ring(room, -1), -1);
                due("quarrels no more", x.quarrels(room), 0);
                due("to rest no more", x.toRest(room, 0), 0);
                due("order again", x.order(room, 1), change == 0 ? 1 : 2);
                due("rounds again", x.rounds(room, 4), change == 0 ? 2 : 1);
                due("few again", x.few(room, -1), 1);
            }
        }
    }

    private static void rulesOfEvenThatCount() {
        CHECK.sentence("Promises 23, 24, Terms 2: a RULE of even counts, if it tells none or that ROOM, doesn't REST, both COME");
        FirstIn x = ranked(3, "above a b by 1;even a b by 1 in 0;even b c by 1;");
        x.room(Edge.ROW, 1);
        due("rounds in 0", x.rounds(0, 3), -1);
        due("few in 0", x.few(0, -1), 2);
        due("rounds in 1", x.rounds(1, 3), 2);
        due("few in 1", x.few(1, -1), 1);
        due("one door in 1", x.rounds(1, 1), -1);
        x.rest(1, true);
        due("rounds in 0, one rests", x.rounds(0, 3), 2);
        due("few in 0, one rests", x.few(0, -1), 1);
        x.rest(2, true);
        due("one door, both rest", x.rounds(0, 1), 3);
        x.rest(1, false);
        x.comes(1, false);
        due("one door, b comes not", x.rounds(0, 1), 2);
        due("few, b comes not", x.few(0, -1), 1);
    }

    private static void nobodyComes() {
        CHECK.sentence("Promises 19 to 24: nobody COMES");
        FirstIn x = ranked(2, chain("aba"));
        x.comes(0, false);
        x.comes(1, false);
        ring("nobody", x);
        due("quarrels", x.quarrels(0), 0);
        due("to rest", x.toRest(0, 0), 0);
        due("order", x.order(0, 0), -1);
        rounds("nobody", x, 0, 0, 0, 0);
        due("few", x.few(0, -1), 0);
        due("few of a", x.few(0, 0), -1);
    }

    private static void roomsThatAreNone() {
        CHECK.sentence("Promises 19 to 24: NONE if there is no such ROOM");
        for (int rooms = 0; rooms <= 4; rooms++) {
            FirstIn x = Check.court("guest a;");
            for (int k = 0; k < rooms; k++) {
                x.room(Edge.ROW, 1);
            }
            for (int room = 0; room < rooms; room++) {
                due("order in " + room, x.order(room, 0), 0);
                due("rounds in " + room, x.rounds(room, 1), 1);
                due("few in " + room, x.few(room, -1), 1);
                due("to rest in " + room, x.toRest(room, 1), 0);
            }
            for (int room : Edge.beyond(0, rooms - 1)) {
                due("order in " + room, x.order(room, 0), -1);
                due("rounds in " + room, x.rounds(room, 1), -1);
                due("few in " + room, x.few(room, -1), -1);
                due("to rest in " + room, x.toRest(room, 1), -1);
                due("quarrels in " + room, x.quarrels(room), -1);
                due("ring in " + room, x.ring(room, -1), -1);
            }
        }
    }
}
