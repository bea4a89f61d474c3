/** Promises 14 to 18 and the second part of 'Terms': heights, who is beside whom, slights and who minds them. */
public final class EdgeSlightTest {
    private static final Check CHECK = new Check();

    private EdgeSlightTest() {
    }

    public static void main(String[] args) {
        heightsInARow();
        heightsAtATable();
        heightsInARing();
        heightsAtADoor();
        heightsInATurn();
        heightsOfNone();
        besideInARow();
        besideAtATable();
        besideInARing();
        besideAtADoor();
        rulesThatCount();
        slightsOfAbove();
        slightsOfEven();
        slightsOfApart();
        inTheirOrder();
        weightNumberHeaviest();
        theTenthGuest();
        theHeaviestGoes();
        slightsOfNone();
        theKthSlight();
        toSay();
        whoMinds();
        whoMindsMost();
        mindsOfNone();
        sources();
        sourcesOfNone();
        CHECK.close("EdgeSlightTest");
    }

    private static void due(String what, long got, long want) {
        CHECK.due(what, got, want);
    }

    /** All couples of places in a course: the less depth is the higher; alike says what those of one depth answer. */
    private static void heights(int kind, int course, int alike, int... depths) {
        FirstIn x = new FirstIn();
        x.room(kind, depths.length);
        for (int p = 0; p < depths.length; p++) {
            for (int q = 0; q < depths.length; q++) {
                int want = depths[p] < depths[q] ? 1 : depths[p] > depths[q] ? 2 : p == q ? 0 : alike;
                due("kind " + kind + " of " + depths.length + ", course " + course + ", " + p + " and " + q,
                    x.higher(0, course, p, q), want);
            }
        }
    }

    private static void heightsInARow() {
        CHECK.sentence("Promise 14, Terms 2: ROW: the less number; one and the same: 0");
        for (int course : new int[] {0, 1, 9}) {
            heights(Edge.ROW, course, -1, 0);
            heights(Edge.ROW, course, -1, 0, 1);
            heights(Edge.ROW, course, -1, 0, 1, 2, 3, 4, 5, 6, 7, 8, 9);
        }
    }

    private static void heightsAtATable() {
        CHECK.sentence("Promise 14, Terms 2: TABLE: the less half of the number (cut); it can't be told, if these are alike");
        for (int course : new int[] {0, 1, 9}) {
            heights(Edge.TABLE, course, -1, 0);
            heights(Edge.TABLE, course, -1, 0, 0);
            heights(Edge.TABLE, course, -1, 0, 0, 1);
            heights(Edge.TABLE, course, -1, 0, 0, 1, 1, 2, 2, 3, 3, 4);
            heights(Edge.TABLE, course, -1, 0, 0, 1, 1, 2, 2, 3, 3, 4, 4);
        }
    }

    private static void heightsInARing() {
        CHECK.sentence("Promise 14, Terms 2: RING: it can't be told; one and the same: 0");
        for (int course : new int[] {0, 1, 9}) {
            heights(Edge.RING, course, -1, 0);
            heights(Edge.RING, course, -1, 0, 0);
            heights(Edge.RING, course, -1, 0, 0, 0, 0, 0, 0, 0, 0, 0, 0);
        }
    }

    private static void heightsAtADoor() {
        CHECK.sentence("Promise 14, Terms 2: DOOR: as at a TABLE, but if these are alike, both are at one height");
        for (int course : new int[] {0, 1, 9}) {
            heights(Edge.DOOR, course, 0, 0);
            heights(Edge.DOOR, course, 0, 0, 0);
            heights(Edge.DOOR, course, 0, 0, 0, 1);
            heights(Edge.DOOR, course, 0, 0, 0, 1, 1, 2, 2, 3, 3, 4);
            heights(Edge.DOOR, course, 0, 0, 0, 1, 1, 2, 2, 3, 3, 4, 4);
        }
    }

    private static void heightsInATurn() {
        CHECK.sentence("Promise 14, Terms 2: TURN: in COURSE c the one with the less rest of its number and c by n");
        for (int course = 0; course <= 9; course++) {
            heights(Edge.TURN, course, -1, 0);
        }
        heights(Edge.TURN, 0, -1, 0, 1);
        heights(Edge.TURN, 1, -1, 1, 0);
        heights(Edge.TURN, 8, -1, 0, 1);
        heights(Edge.TURN, 9, -1, 1, 0);
        heights(Edge.TURN, 0, -1, 0, 1, 2, 3);
        heights(Edge.TURN, 1, -1, 1, 2, 3, 0);
        heights(Edge.TURN, 3, -1, 3, 0, 1, 2);
        heights(Edge.TURN, 4, -1, 0, 1, 2, 3);
        heights(Edge.TURN, 5, -1, 1, 2, 3, 0);
        heights(Edge.TURN, 8, -1, 0, 1, 2, 3);
        heights(Edge.TURN, 9, -1, 1, 2, 3, 0);
        heights(Edge.TURN, 9, -1, 0, 1, 2, 3, 4, 5, 6, 7, 8);
        heights(Edge.TURN, 8, -1, 8, 0, 1, 2, 3, 4, 5, 6, 7);
        heights(Edge.TURN, 0, -1, 0, 1, 2, 3, 4, 5, 6, 7, 8, 9);
        heights(Edge.TURN, 1, -1, 1, 2, 3, 4, 5, 6, 7, 8, 9, 0);
        heights(Edge.TURN, 9, -1, 9, 0, 1, 2, 3, 4, 5, 6, 7, 8);
    }

    private static void heightsOfNone() {
        CHECK.sentence("Promise 14: NONE if there are none such");
        for (int kind = 0; kind <= 4; kind++) {
            for (int places : new int[] {1, 3, 10}) {
                FirstIn x = new FirstIn();
                x.room(kind, places);
                for (int bad : Edge.beyond(0, 0)) {
                    due("room " + bad, x.higher(bad, 0, 0, 0), -1);
                }
                for (int bad : Edge.beyond(0, 9)) {
                    due("course " + bad, x.higher(0, bad, 0, places - 1), -1);
                    due("course " + bad + ", the same", x.higher(0, bad, 0, 0), -1);
                }
                for (int bad : Edge.beyond(0, places - 1)) {
                    due("the first " + bad, x.higher(0, 0, bad, 0), -1);
                    due("the other " + bad, x.higher(0, 9, 0, bad), -1);
                    due("both " + bad, x.higher(0, 0, bad, bad), -1);
                }
            }
        }
        due("of a new object", new FirstIn().higher(0, 0, 0, 0), -1);
    }

    /** All couples of places; the rows of those that are beside each are told by digits. */
    private static void beside(int kind, int course, String... besideEach) {
        int places = besideEach.length;
        for (int p = 0; p < places; p++) {
            for (int q = 0; q < places; q++) {
                if (p != q) {
                    FirstIn x = Edge.seated("guest a;guest b;apart a b by 3;", kind, places, p, q);
                    int want = besideEach[p].indexOf('0' + q) >= 0 ? 3 : 0;
                    String what = "kind " + kind + " of " + places + ", " + p + " and " + q;
                    due(what, x.slights(0, course, 0), want);
                    due(what + ", a minds", x.minds(0, course, 0), want);
                    due(what + ", b minds", x.minds(0, course, 1), want);
                }
            }
        }
    }

    private static void besideInARow() {
        CHECK.sentence("Terms 2: BESIDE: in a ROW, TURN: numbers unlike by 1");
        for (int course : new int[] {0, 1, 9}) {
            for (int kind : new int[] {Edge.ROW, Edge.TURN}) {
                beside(kind, course, "1", "0");
                beside(kind, course, "1", "02", "1");
                beside(kind, course, "1", "02", "13", "24", "35", "46", "57", "68", "79", "8");
            }
        }
    }

    private static void besideAtATable() {
        CHECK.sentence("Terms 2: BESIDE: TABLE: by 2");
        beside(Edge.TABLE, 0, "", "");
        beside(Edge.TABLE, 0, "2", "", "0");
        beside(Edge.TABLE, 9, "2", "3", "0", "1");
        beside(Edge.TABLE, 0, "2", "3", "04", "15", "26", "37", "48", "59", "6", "7");
    }

    private static void besideInARing() {
        CHECK.sentence("Terms 2: BESIDE: RING: by 1, also the first and the last one (not the same)");
        beside(Edge.RING, 0, "1", "0");
        beside(Edge.RING, 0, "12", "02", "01");
        beside(Edge.RING, 9, "13", "02", "13", "02");
        beside(Edge.RING, 0, "19", "02", "13", "24", "35", "46", "57", "68", "79", "08");
    }

    private static void besideAtADoor() {
        CHECK.sentence("Terms 2: BESIDE: DOOR: those at one height");
        beside(Edge.DOOR, 0, "1", "0");
        beside(Edge.DOOR, 0, "1", "0", "");
        beside(Edge.DOOR, 9, "1", "0", "3", "2");
        beside(Edge.DOOR, 0, "1", "0", "3", "2", "5", "4", "7", "6", "9", "8");
    }

    private static void rulesThatCount() {
        CHECK.sentence("Terms 2: A RULE counts in a ROOM, if it tells none or that one, doesn't REST, and both guests COME");
        FirstIn x = Check.court("guest a;guest b;above a b by 9 in 0;above a b by 7 in 3;above a b by 5 in 1;"
            + "above a b by 3;above a b by 2 in 2;");
        for (int room = 0; room < 4; room++) {
            x.room(Edge.ROW, 2);
        }
        int[] all = {12, 8, 5, 10};
        int[] source = {0, 2, 3, 1};
        for (int room = 0; room < 4; room++) {
            x.seat(0, room, 1);
            x.seat(1, room, 0);
            due("slights in " + room, x.slights(room, 0, 0), all[room]);
            due("source in " + room, x.source(room, 0, 1), source[room]);
            x.rest(source[room], true);
            due("one rests in " + room, x.slights(room, 0, 0), room == 2 ? 2 : 3);
            due("the other's in " + room, x.source(room, 0, 1), room == 2 ? 4 : 3);
            x.rest(source[room], false);
            due("no more in " + room, x.slights(room, 0, 0), all[room]);
        }
        for (int guest = 0; guest < 2; guest++) {
            x.comes(guest, false);
            due("one comes not", x.source(0, 0, 1), -1);
            x.comes(guest, true);
            due("it comes", x.source(0, 0, 1), 0);
        }
    }

    /** The slights of a couple (a, b) of one rule, a at the first place: how many, and who minds. */
    private static void slight(String kindOfRule, int kind, int places, int[] at, String whoMinds) {
        FirstIn x = Edge.seated("guest a;guest b;" + kindOfRule + " a b by 4;", kind, places, at);
        String what = kindOfRule + " in kind " + kind + " at " + at[0] + " and " + at[1];
        due(what + ", weight", x.slights(0, 0, 0), whoMinds.isEmpty() ? 0 : 4);
        due(what + ", how many", x.slights(0, 0, 1), whoMinds.isEmpty() ? 0 : 1);
        due(what + ", a minds", x.minds(0, 0, 0), whoMinds.indexOf('a') >= 0 ? 4 : 0);
        due(what + ", b minds", x.minds(0, 0, 1), whoMinds.indexOf('b') >= 0 ? 4 : 0);
    }

    private static int[] at(int... places) {
        return places;
    }

    private static void slightsOfAbove() {
        CHECK.sentence("Terms 2: a couple (x, y) of above, if y's PLACE is HIGHER, or at one height: x MINDS");
        slight("above", Edge.ROW, 10, at(0, 1), "");
        slight("above", Edge.ROW, 10, at(1, 0), "a");
        slight("above", Edge.ROW, 10, at(9, 0), "a");
        slight("above", Edge.ROW, 10, at(0, 9), "");
        slight("above", Edge.TABLE, 10, at(0, 1), "");
        slight("above", Edge.TABLE, 10, at(1, 0), "");
        slight("above", Edge.TABLE, 10, at(2, 1), "a");
        slight("above", Edge.TABLE, 10, at(1, 2), "");
        slight("above", Edge.RING, 10, at(9, 0), "");
        slight("above", Edge.RING, 10, at(0, 9), "");
        slight("above", Edge.DOOR, 10, at(0, 1), "a");
        slight("above", Edge.DOOR, 10, at(9, 8), "a");
        slight("above", Edge.DOOR, 10, at(8, 7), "a");
        slight("above", Edge.DOOR, 10, at(7, 8), "");
        slight("above", Edge.TURN, 10, at(8, 9), "");
        slight("above", Edge.TURN, 10, at(9, 8), "a");
    }

    private static void slightsOfEven() {
        CHECK.sentence("Terms 2: a couple of even, if one PLACE is HIGHER: the other one MINDS");
        slight("even", Edge.ROW, 10, at(0, 1), "b");
        slight("even", Edge.ROW, 10, at(9, 8), "a");
        slight("even", Edge.TABLE, 10, at(0, 1), "");
        slight("even", Edge.TABLE, 10, at(2, 1), "a");
        slight("even", Edge.TABLE, 10, at(7, 8), "b");
        slight("even", Edge.RING, 10, at(0, 5), "");
        slight("even", Edge.DOOR, 10, at(0, 1), "");
        slight("even", Edge.DOOR, 10, at(9, 8), "");
        slight("even", Edge.DOOR, 10, at(7, 8), "b");
        slight("even", Edge.DOOR, 10, at(2, 1), "a");
        slight("even", Edge.TURN, 10, at(0, 9), "b");
        slight("even", Edge.TURN, 10, at(9, 0), "a");
    }

    private static void slightsOfApart() {
        CHECK.sentence("Terms 2: a couple of apart, if they are BESIDE one another: both MIND");
        slight("apart", Edge.ROW, 10, at(0, 1), "ab");
        slight("apart", Edge.ROW, 10, at(2, 0), "");
        slight("apart", Edge.TABLE, 10, at(0, 1), "");
        slight("apart", Edge.TABLE, 10, at(9, 7), "ab");
        slight("apart", Edge.RING, 10, at(9, 0), "ab");
        slight("apart", Edge.RING, 10, at(8, 0), "");
        slight("apart", Edge.DOOR, 10, at(0, 1), "ab");
        slight("apart", Edge.DOOR, 10, at(1, 2), "");
        slight("apart", Edge.TURN, 10, at(9, 0), "");
    }

    private static void kth(FirstIn x, int k, int... want) {
        for (int what = 0; what < want.length; what++) {
            due("slight " + k + ", " + what, x.slight(0, 0, k, what), want[what]);
        }
    }

    private static void inTheirOrder() {
        CHECK.sentence("Terms 2: They are told by RULES, then by x, then by y (of even and apart the lesser number is x)");
        FirstIn x = Edge.seated(Edge.marked(3) + "apart c b by 1;even c m by 9;above m m by 5;", Edge.DOOR, 6, 2, 0, 1);
        kth(x, 0, 0, 1, 2, -1);
        kth(x, 1, 1, 0, 2, -1);
        kth(x, 2, 2, 0, 1, 2);
        kth(x, 3, 2, 0, 2, 2);
        kth(x, 4, 2, 1, 2, 2);
        kth(x, 5, 2, 2, 1, 2);
        kth(x, 6, -1, -1, -1, -1);
        due("how many", x.slights(0, 0, 1), 6);
    }

    /** Ten guests, the least at the foot: each couple of each rule is a slight. */
    private static FirstIn allSlighted() {
        return Edge.seated(Edge.marked(10) + "above m m by 9;".repeat(12), Edge.ROW, 10, 9, 8, 7, 6, 5, 4, 3, 2, 1, 0);
    }

    private static void weightNumberHeaviest() {
        CHECK.sentence("Promise 16: 0 their WEIGHT in all, 1 how many, 2 the heaviest (0 without); NONE for others");
        int[] want = {12 * 45 * 9, 12 * 45, 9};
        FirstIn x = allSlighted();
        FirstIn none = Edge.seated("guest a;guest b;above a b by 9;", Edge.ROW, 2, 0, 1);
        FirstIn alone = Edge.seated("guest a;guest b;above a b by 9;", Edge.ROW, 2, 1);
        FirstIn empty = Edge.inRoom("guest a;", Edge.ROW, 1);
        FirstIn noGuests = new FirstIn();
        noGuests.room(Edge.ROW, 1);
        FirstIn light = Edge.seated("guest a;guest b;above b a by 1;even a b by 2;", Edge.ROW, 2, 0, 1);
        int[] two = {3, 2, 2};
        for (int what = 0; what <= 2; what++) {
            due("of all, " + what, x.slights(0, 0, what), want[what]);
            due("without, " + what, none.slights(0, 0, what), 0);
            due("one alone, " + what, alone.slights(0, 0, what), 0);
            due("nobody, " + what, empty.slights(0, 0, what), 0);
            due("no guests, " + what, noGuests.slights(0, 0, what), 0);
            due("two, " + what, light.slights(0, 0, what), two[what]);
        }
        for (int what : Edge.beyond(0, 2)) {
            due("what " + what, x.slights(0, 0, what), -1);
            due("what " + what + " without", none.slights(0, 0, what), -1);
        }
    }

    private static void theTenthGuest() {
        CHECK.sentence("Promises 16 to 18: the last of ten guests");
        FirstIn x = Check.court(Edge.guests(10) + "above j a by 3;even j b by 2;apart c j by 4;");
        x.room(Edge.ROW, 10);
        x.seat(0, 0, 0);
        x.seat(1, 0, 1);
        x.seat(9, 0, 8);
        x.seat(2, 0, 9);
        kth(x, 0, 0, 9, 0, -1);
        kth(x, 1, 1, 1, 9, -1);
        kth(x, 2, 2, 2, 9, -1);
        due("weight", x.slights(0, 0, 0), 9);
        due("j minds", x.minds(0, 0, 9), 9);
        due("c minds", x.minds(0, 0, 2), 4);
        due("j minds most", x.minds(0, 0, -1), 9);
        x.leave(9);
        due("without j", x.slights(0, 0, 0), 0);
        due("j minds no more", x.minds(0, 0, 9), 0);
        due("nobody minds", x.minds(0, 0, -1), -1);
    }

    private static void theHeaviestGoes() {
        CHECK.sentence("Promise 16: 2 the heaviest (0 without)");
        FirstIn x = Edge.seated("guest a;guest b;even a b by 9;even a b by 4;", Edge.ROW, 2, 0, 1);
        due("both", x.slights(0, 0, 2), 9);
        x.rest(0, true);
        due("one rests", x.slights(0, 0, 2), 4);
        x.rest(1, true);
        due("both rest", x.slights(0, 0, 2), 0);
        x.rest(0, false);
        due("one no more", x.slights(0, 0, 2), 9);
        x.leave(1);
        due("left", x.slights(0, 0, 2), 0);
    }

    private static void slightsOfNone() {
        CHECK.sentence("Promise 16 and 17: NONE if there are none such; COURSES are 0 .. 9");
        for (int kind : new int[] {Edge.ROW, Edge.TURN}) {
            FirstIn x = Edge.seated("guest a;guest b;even a b by 9;", kind, 2, 0, 1);
            for (int course = 0; course <= 9; course++) {
                due("course " + course, x.slights(0, course, 0), 9);
                due("course " + course + ", a slight", x.slight(0, course, 0, 2), 1);
            }
            for (int course : Edge.beyond(0, 9)) {
                due("course " + course, x.slights(0, course, 0), -1);
                due("course " + course + ", a slight", x.slight(0, course, 0, 2), -1);
            }
            for (int room : Edge.beyond(0, 0)) {
                due("room " + room, x.slights(room, 0, 0), -1);
                due("room " + room + ", a slight", x.slight(room, 0, 0, 2), -1);
            }
        }
        due("of a new object", new FirstIn().slights(0, 0, 0), -1);
        CHECK.sentence("Terms 2: A seating by hand is of those who are SEATED in a ROOM; others give no SLIGHTS there");
        FirstIn x = Edge.seated("guest a;guest b;above a b by 9;", Edge.ROW, 2, 1);
        x.room(Edge.ROW, 2);
        x.seat(1, 1, 0);
        due("in two rooms", x.slights(0, 0, 1), 0);
        due("in two rooms", x.slights(1, 0, 1), 0);
        x.seat(1, 0, 0);
        due("in one room", x.slights(0, 0, 1), 1);
        due("not in the other", x.slights(1, 0, 1), 0);
        x.leave(0);
        due("left", x.slights(0, 0, 1), 0);
    }

    private static void theKthSlight() {
        CHECK.sentence("Promise 17: Of the k-th SLIGHT: NONE for others, or if there is none such");
        FirstIn x = allSlighted();
        kth(x, 0, 0, 0, 1, 0);
        kth(x, 44, 0, 8, 9, 0);
        kth(x, 45, 1, 0, 1, 0);
        kth(x, 538, 11, 7, 9, 0);
        kth(x, 539, 11, 8, 9, 0);
        for (int k : Edge.beyond(0, 539)) {
            kth(x, k, -1, -1, -1, -1);
        }
        for (int what : Edge.beyond(0, 3)) {
            due("what " + what, x.slight(0, 0, 0, what), -1);
            due("what " + what + " of the last", x.slight(0, 0, 539, what), -1);
        }
        FirstIn none = Edge.inRoom("guest a;guest b;above a b by 9;", Edge.ROW, 2);
        for (int k : new int[] {Edge.LEAST, -1, 0, 1, Edge.GREATEST}) {
            kth(none, k, -1, -1, -1, -1);
        }
    }

    private static int said(String rules) {
        FirstIn x = Edge.seated("guest a;guest b;above a b by 4;" + rules, Edge.ROW, 2, 1, 0);
        return x.slight(0, 0, 0, 3);
    }

    private static void toSay() {
        CHECK.sentence("Promise 17: 3 the RULE TO SAY (NONE); Terms 4: the heaviest of above that counts and has the couple "
            + "turned about, of like ones the least");
        due("nothing", said(""), -1);
        due("not the same couple", said("above a b by 9;"), -1);
        due("a lighter one", said("above b a by 1;"), 1);
        due("a heavier one", said("above b a by 9;"), 1);
        due("heavier by 1", said("above b a by 3;above b a by 4;above b a by 3;"), 2);
        due("of like ones the least", said("above b a by 1;above b a by 4;above b a by 4;"), 2);
        due("not of another room", said("above b a by 9 in 1;above b a by 3 in 0;"), 2);
        due("not of even", said("even b a by 9;"), -1);
        due("not of apart", said("apart b a by 9;"), -1);
        FirstIn x = Edge.seated("guest a;guest b;even a b by 4;apart a b by 4;above b a by 1;above a b by 1;", Edge.ROW, 2, 1, 0);
        due("of even", x.slight(0, 0, 0, 3), -1);
        due("of apart", x.slight(0, 0, 1, 3), -1);
        due("of above", x.slight(0, 0, 2, 3), 2);
        x.rest(2, true);
        due("not one that rests", x.slight(0, 0, 2, 3), -1);
    }

    private static void whoMinds() {
        CHECK.sentence("Promise 18: How much a guest MINDS in a COURSE (0 if it isn't SEATED there)");
        FirstIn x = allSlighted();
        for (int guest = 0; guest < 10; guest++) {
            due("guest " + guest, x.minds(0, 0, guest), 12 * 9 * (9 - guest));
        }
        FirstIn two = Check.court("guest a;guest b;guest c;even a b by 7;");
        two.room(Edge.TURN, 2);
        two.room(Edge.TURN, 2);
        two.seat(0, 1, 0);
        two.seat(1, 1, 1);
        for (int course = 0; course <= 9; course++) {
            due("a in course " + course, two.minds(1, course, 0), course % 2 == 0 ? 0 : 7);
            due("b in course " + course, two.minds(1, course, 1), course % 2 == 0 ? 7 : 0);
            due("who in course " + course, two.minds(1, course, -1), course % 2 == 0 ? 1 : 0);
        }
        due("seated in another room", two.minds(0, 0, 1), 0);
        due("not seated", two.minds(1, 0, 2), 0);
        two.comes(2, false);
        due("comes not", two.minds(1, 0, 2), 0);
        two.leave(1);
        due("left", two.minds(1, 0, 1), 0);
    }

    private static int most(String rules) {
        return Edge.seated(Edge.guests(4) + rules, Edge.ROW, 4, 3, 2, 1, 0).minds(0, 0, -1);
    }

    private static void whoMindsMost() {
        CHECK.sentence("Promise 18: (guest NONE) the guest who MINDS most, of like ones the least (NONE, if nobody does)");
        due("nobody", most(""), -1);
        due("nobody is slighted", most("above d a by 9;"), -1);
        due("the last that can", most("above c d by 1;"), 2);
        due("like ones", most("above b c by 3;above a d by 3;"), 0);
        due("more by 1", most("above b c by 4;above a d by 3;"), 1);
        due("less by 1", most("above b c by 3;above a d by 4;"), 0);
        due("like sums", most("above b c by 2;above c d by 3;above b d by 1;"), 1);
        due("both of apart", most("apart d c by 1;"), 2);
        FirstIn empty = Edge.inRoom("guest a;", Edge.ROW, 1);
        due("nobody is seated", empty.minds(0, 0, -1), -1);
        FirstIn noGuests = new FirstIn();
        noGuests.room(Edge.ROW, 1);
        due("no guests", noGuests.minds(0, 0, -1), -1);
    }

    private static void mindsOfNone() {
        CHECK.sentence("Promise 18: NONE if there are none such");
        for (int guests : new int[] {2, 10}) {
            FirstIn x = Edge.seated(Edge.guests(guests) + "above a b by 9;", Edge.ROW, 2, 1, 0);
            for (int guest : Edge.beyond(-1, guests - 1)) {
                due("guest " + guest + " of " + guests, x.minds(0, 0, guest), -1);
            }
            for (int room : Edge.beyond(0, 0)) {
                due("room " + room, x.minds(room, 0, 0), -1);
                due("room " + room + ", most", x.minds(room, 0, -1), -1);
            }
            for (int course : Edge.beyond(0, 9)) {
                due("course " + course, x.minds(0, course, 0), -1);
                due("course " + course + ", most", x.minds(0, course, -1), -1);
            }
        }
        FirstIn noGuests = new FirstIn();
        noGuests.room(Edge.ROW, 1);
        due("no guests", noGuests.minds(0, 0, 0), -1);
    }

    private static int source(String rules) {
        return Edge.inRoom("guest a;guest b;guest c;" + rules, Edge.RING, 1).source(0, 0, 1);
    }

    private static void sources() {
        CHECK.sentence("Promise 15, Terms 3: the SOURCE is the heaviest of such RULES, of like ones the least");
        due("one", source("above a b by 1;"), 0);
        due("like ones", source("above a b by 5;above a b by 5;"), 0);
        due("heavier by 1", source("above a b by 5;above a b by 6;above a b by 5;"), 1);
        due("lighter by 1", source("above a b by 6;above a b by 5;above a b by 6;"), 0);
        due("the last of twelve", source("above a b by 8;".repeat(11) + "above a b by 9;"), 11);
        due("by a mark", source("mark m is b c;above m m by 9;above a m by 1;"), 1);
        due("but unless", source("mark m is b c;above a m by 9 unless m;above a b by 1;"), 1);
        CHECK.sentence("Promise 15: NONE if it isn't");
        due("turned about", source("above b a by 1;"), -1);
        due("even", source("even a b by 1;"), -1);
        due("apart", source("apart a b by 1;"), -1);
        due("by a third one", source("above a c by 1;above c b by 1;"), -1);
        due("another room's", source("above a b by 1 in 1;"), -1);
        due("none", source(""), -1);
    }

    private static void sourcesOfNone() {
        CHECK.sentence("Promise 15: NONE if there are none such");
        for (int guests : new int[] {2, 10}) {
            FirstIn x = Edge.inRoom(Edge.marked(guests) + "above m m by 1;", Edge.ROW, 1);
            due("the last above the first", x.source(0, guests - 1, 0), 0);
            due("the first above the last", x.source(0, 0, guests - 1), 0);
            for (int guest = 0; guest < guests; guest++) {
                due("itself", x.source(0, guest, guest), -1);
            }
            for (int bad : Edge.beyond(0, guests - 1)) {
                due("guest " + bad, x.source(0, bad, 0), -1);
                due("other " + bad, x.source(0, 0, bad), -1);
                due("both " + bad, x.source(0, bad, bad), -1);
            }
            for (int bad : Edge.beyond(0, 0)) {
                due("room " + bad, x.source(bad, 0, 1), -1);
            }
        }
        due("of a new object", new FirstIn().source(0, 0, 1), -1);
    }
}
