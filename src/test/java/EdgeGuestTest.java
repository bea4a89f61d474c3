/** Promises 6 to 13 and 31: rooms, guests, rules, who rests, comes, is seated and sits; at each limit and beyond it. */
public final class EdgeGuestTest {
    private static final Check CHECK = new Check();

    private EdgeGuestTest() {
    }

    public static void main(String[] args) {
        kindsOfRooms();
        placesOfRooms();
        fourRooms();
        whichGuests();
        whatOfAGuest();
        marksOfAGuest();
        roomAndPlaceOfAGuest();
        whichRules();
        whatOfARule();
        theTwoOfARule();
        marksBehindUnless();
        howManyCouples();
        rests();
        restsAlready();
        comes();
        comesAlready();
        leavesItsPlaceThen();
        seated();
        seatedNowhere();
        somebodyHasIt();
        seatedWhoSits();
        leaves();
        leavesNot();
        sits();
        sitsNot();
        counts();
        countsOfOthers();
        CHECK.close("EdgeGuestTest");
    }

    private static void due(String what, long got, long want) {
        CHECK.due(what, got, want);
    }

    private static void due(String what, boolean got, boolean want) {
        CHECK.due(what, got, want);
    }

    private static void kindsOfRooms() {
        CHECK.sentence("Promise 6: A ROOM: its number; NONE if it can't be; Terms 2: kinds 0 to 4");
        for (int kind = 0; kind <= 4; kind++) {
            FirstIn x = new FirstIn();
            for (int bad : Edge.beyond(0, 4)) {
                due("kind " + bad, x.room(bad, 5), -1);
                due("rooms", x.count(3), 0);
            }
            due("kind " + kind, x.room(kind, 5), 0);
            due("rooms", x.count(3), 1);
        }
    }

    private static void placesOfRooms() {
        CHECK.sentence("Promise 6: NONE if it can't be; Terms 2: PLACES 0 .. n - 1 (n 1 .. 10)");
        for (int kind = 0; kind <= 4; kind++) {
            FirstIn x = new FirstIn();
            for (int bad : Edge.beyond(1, 10)) {
                due("kind " + kind + " of " + bad, x.room(kind, bad), -1);
                due("rooms", x.count(3), 0);
            }
            int number = 0;
            for (int places : new int[] {1, 2, 9, 10}) {
                due("kind " + kind + " of " + places, x.room(kind, places), number);
                due("its last place", x.higher(number, 0, places - 1, places - 1), 0);
                due("behind it", x.higher(number, 0, places, places), -1);
                number++;
            }
        }
    }

    private static void fourRooms() {
        CHECK.sentence("Promise 6: its number; NONE if 4 came; Terms 2: numbers as they come, at most 4");
        FirstIn x = new FirstIn();
        for (int number = 0; number < 4; number++) {
            due("refused takes no number", x.room(5, 1), -1);
            due("refused takes no number", x.room(0, 11), -1);
            due("not there yet", x.quarrels(number), -1);
            due("room", x.room(4 - number, 1 + number), number);
            due("there", x.quarrels(number), 0);
            due("rooms", x.count(3), number + 1);
        }
        for (int kind = 0; kind <= 4; kind++) {
            due("a fifth of kind " + kind, x.room(kind, 10), -1);
        }
        due("rooms", x.count(3), 4);
        due("the last is as it was", x.higher(3, 0, 3, 0), 2);
        due("it has no further place", x.higher(3, 0, 4, 0), -1);
    }

    private static void whichGuests() {
        CHECK.sentence("Promise 7: NONE if there is none such");
        for (int guests : new int[] {1, 2, 9, 10}) {
            FirstIn x = Check.court(Edge.guests(guests));
            due("the first of " + guests, x.guest(0, 0), 1);
            due("the last of " + guests, x.guest(guests - 1, 0), 1);
            for (int guest : Edge.beyond(0, guests - 1)) {
                for (int what = 0; what <= 4; what++) {
                    due("guest " + guest + " of " + guests + ", " + what, x.guest(guest, what), -1);
                }
            }
        }
    }

    private static void whatOfAGuest() {
        CHECK.sentence("Promise 7: Of a guest: 0 to 4; NONE for others");
        FirstIn x = Edge.seated("guest b;guest a;mark m is a;", Edge.ROW, 3, 2, 1);
        x.sits(1, true);
        int[] want = {1, 1, 0, 1, 1};
        for (int what = 0; what <= 4; what++) {
            due("what " + what, x.guest(1, what), want[what]);
        }
        for (int what : Edge.beyond(0, 4)) {
            due("what " + what, x.guest(1, what), -1);
        }
    }

    private static void marksOfAGuest() {
        CHECK.sentence("Promise 7: 1 its marks (bits)");
        FirstIn x = Check.court(Edge.guests(10) + "mark v is a j;mark w is j;mark x is j b;mark y is j;mark z is j i;");
        int[] want = {1, 4, 0, 0, 0, 0, 0, 0, 16, 31};
        for (int guest = 0; guest < 10; guest++) {
            due("marks of " + guest, x.guest(guest, 1), want[guest]);
        }
        x.comes(9, false);
        due("also of one who doesn't come", x.guest(9, 1), 31);
    }

    private static void roomAndPlaceOfAGuest() {
        CHECK.sentence("Promise 7: 2 its ROOM and 3 its PLACE by hand (NONE)");
        FirstIn x = Check.court(Edge.guests(10));
        for (int room = 0; room < 4; room++) {
            x.room(room, 10);
        }
        for (int guest : new int[] {0, 9}) {
            for (int room : new int[] {0, 3}) {
                for (int place : new int[] {0, 9}) {
                    due("no room", x.guest(guest, 2), -1);
                    due("no place", x.guest(guest, 3), -1);
                    x.seat(guest, room, place);
                    due("room", x.guest(guest, 2), room);
                    due("place", x.guest(guest, 3), place);
                    x.leave(guest);
                }
            }
        }
    }

    private static void whichRules() {
        CHECK.sentence("Promise 8: NONE if there is none such");
        for (int rules : new int[] {0, 1, 11, 12}) {
            FirstIn x = Check.court("guest a;" + "even a a by 4;".repeat(rules));
            for (int rule = 0; rule < rules; rule++) {
                due("rule " + rule + " of " + rules, x.rule(rule, 3), 4);
            }
            for (int rule : Edge.beyond(0, rules - 1)) {
                for (int what = 0; what <= 7; what++) {
                    due("rule " + rule + " of " + rules + ", " + what, x.rule(rule, what), -1);
                }
            }
        }
    }

    private static void whatOfARule() {
        CHECK.sentence("Promise 8: Of a RULE: 0 to 7; NONE for others");
        FirstIn x = Check.court("guest a;guest b;guest c;mark m is b c;mark n is b;even a a by 1;"
            + "apart m a by 9 in 3 unless n;above a m by 1 unless n;");
        x.rest(1, true);
        int[] want = {2, 100, 0, 9, 3, 1, 2, 1};
        int[] then = {0, 0, 100, 1, -1, 1, 1, 0};
        for (int what = 0; what <= 7; what++) {
            due("what " + what, x.rule(1, what), want[what]);
            due("of the next one " + what, x.rule(2, what), then[what]);
        }
        for (int what : Edge.beyond(0, 7)) {
            due("what " + what, x.rule(1, what), -1);
        }
    }

    private static void theTwoOfARule() {
        CHECK.sentence("Promise 8: 1 and 2 its S (a guest's number, or 100 and a mark's)");
        FirstIn x = Check.court(Edge.guests(10) + "mark v is a;mark w is b;mark x is c;mark y is d;mark z is e;"
            + "above a j by 1;above v z by 1;above z v by 1;above j y by 1;");
        int[][] want = {{0, 9}, {100, 104}, {104, 100}, {9, 103}};
        for (int rule = 0; rule < 4; rule++) {
            due("the first of " + rule, x.rule(rule, 1), want[rule][0]);
            due("the second of " + rule, x.rule(rule, 2), want[rule][1]);
        }
    }

    private static void marksBehindUnless() {
        CHECK.sentence("Promise 8: 4 the room's number it tells (NONE), 5 the mark behind unless (NONE)");
        FirstIn x = Check.court("guest a;mark v is a;mark w is a;mark x is a;mark y is a;mark z is a;"
            + "above a a by 1;above a a by 1 unless v;above a a by 1 unless z;above a a by 1 in 0;above a a by 1 in 3 unless y;");
        int[][] want = {{-1, -1}, {-1, 0}, {-1, 4}, {0, -1}, {3, 3}};
        for (int rule = 0; rule < 5; rule++) {
            due("the room of " + rule, x.rule(rule, 4), want[rule][0]);
            due("the mark of " + rule, x.rule(rule, 5), want[rule][1]);
        }
    }

    private static void couples(String text, int want) {
        due("couples of " + text, Check.court(text).rule(0, 6), want);
    }

    private static void howManyCouples() {
        CHECK.sentence("Promise 8: 6 how many couples; Terms 2: unlike, of which y hasn't the mark behind unless");
        couples("guest a;above a a by 1;", 0);
        couples("guest a;guest b;above a b by 1;", 1);
        couples(Edge.marked(2) + "above a m by 1;", 1);
        couples(Edge.marked(2) + "above m m by 1;", 2);
        couples(Edge.marked(2) + "even m m by 1;", 1);
        couples(Edge.marked(2) + "apart m m by 1;", 1);
        couples(Edge.marked(10) + "above m m by 1;", 90);
        couples(Edge.marked(10) + "even m m by 1;", 45);
        couples(Edge.marked(10) + "apart m m by 1;", 45);
        couples(Edge.marked(10) + "above m m by 1 unless m;", 0);
        couples(Edge.marked(10) + "mark n is j;above m m by 1 unless n;", 81);
        // j is no y, but may be x: the couples with it are told from the other side.
        couples(Edge.marked(10) + "mark n is j;even m m by 1 unless n;", 45);
        couples(Edge.marked(10) + "mark n is i j;even m m by 1 unless n;", 44);
        couples("guest a;guest b;mark n is a;above a b by 1 unless n;", 1);
        couples("guest a;guest b;mark n is b;above a b by 1 unless n;", 0);
        couples("guest a;guest b;mark n is b;even a b by 1 unless n;", 0);
        couples("guest a;guest b;mark n is b;even b a by 1 unless n;", 1);
        couples("guest a;guest b;mark n is a;apart b a by 1 unless n;", 0);
        String five = "guest a;guest b;mark v is a;mark w is a;mark x is a;mark y is a;mark z is b a;";
        couples(five + "above z z by 1;", 2);
        couples(five + "above v z by 1;", 1);
        couples(five + "above z v by 1;", 1);
        couples(five + "above z z by 1 unless z;", 0);
        couples(five + "above z z by 1 unless y;", 1);
        CHECK.sentence("Promise 8: 6 how many couples (those who don't COME, too)");
        FirstIn x = Check.court(Edge.marked(2) + "above m m by 1;");
        x.comes(0, false);
        x.comes(1, false);
        due("nobody comes", x.rule(0, 6), 2);
        x.rest(0, true);
        due("it rests", x.rule(0, 6), 2);
    }

    private static void rests() {
        CHECK.sentence("Promise 9: A RULE RESTS, or no more: true; false if there is none such");
        for (int rules : new int[] {0, 1, 11, 12}) {
            FirstIn x = Check.court("guest a;" + "even a a by 4;".repeat(rules));
            for (int rule = 0; rule < rules; rule++) {
                due("rests " + rule, x.rest(rule, true), true);
                due("resting", x.count(8), rule + 1);
            }
            for (int rule : Edge.beyond(0, rules - 1)) {
                due("rests " + rule + " of " + rules, x.rest(rule, true), false);
                due("no more " + rule + " of " + rules, x.rest(rule, false), false);
                due("resting", x.count(8), rules);
            }
            for (int rule = 0; rule < rules; rule++) {
                due("no more " + rule, x.rest(rule, false), true);
                due("resting", x.count(8), rules - rule - 1);
            }
        }
    }

    private static void restsAlready() {
        CHECK.sentence("Promise 9: false if it is so already");
        FirstIn x = Check.court("guest a;even a a by 4;even a a by 5;");
        for (int times = 0; times < 2; times++) {
            due("no more already", x.rest(1, false), false);
            due("rests not", x.rule(1, 7), 0);
            due("rests", x.rest(1, true), true);
            due("rests already", x.rest(1, true), false);
            due("rests", x.rule(1, 7), 1);
            due("the other one not", x.rule(0, 7), 0);
            due("no more", x.rest(1, false), true);
        }
    }

    private static void comes() {
        CHECK.sentence("Promise 10: A guest COMES, or not: true; false if there is none such");
        for (int guests : new int[] {1, 9, 10}) {
            FirstIn x = Check.court(Edge.guests(guests));
            for (int guest = 0; guest < guests; guest++) {
                due("comes not " + guest, x.comes(guest, false), true);
                due("who come", x.count(5), guests - guest - 1);
            }
            for (int guest : Edge.beyond(0, guests - 1)) {
                due("comes " + guest + " of " + guests, x.comes(guest, true), false);
                due("comes not " + guest + " of " + guests, x.comes(guest, false), false);
                due("who come", x.count(5), 0);
            }
            for (int guest = 0; guest < guests; guest++) {
                due("comes " + guest, x.comes(guest, true), true);
                due("who come", x.count(5), guest + 1);
            }
        }
        due("of a new object", new FirstIn().comes(0, true), false);
    }

    private static void comesAlready() {
        CHECK.sentence("Promise 10: false if it is so already");
        FirstIn x = Edge.seated(Edge.guests(2), Edge.ROW, 3, 2, 1);
        x.sits(1, true);
        due("comes already", x.comes(1, true), false);
        due("it keeps its place", x.guest(1, 3), 1);
        due("it sits", x.guest(1, 4), 1);
        due("comes not", x.comes(1, false), true);
        due("comes not already", x.comes(1, false), false);
        due("the other one comes", x.guest(0, 0), 1);
        due("the other one's place", x.guest(0, 3), 2);
    }

    private static void leavesItsPlaceThen() {
        CHECK.sentence("Promise 10: or not (it leaves its PLACE then, and SITS no more)");
        for (int guest : new int[] {0, 9}) {
            FirstIn x = Check.court(Edge.guests(10));
            x.room(Edge.ROW, 10);
            x.seat(guest, 0, 9);
            x.sits(guest, true);
            due("comes not", x.comes(guest, false), true);
            int[] want = {0, 0, -1, -1, 0};
            for (int what = 0; what <= 4; what++) {
                due("what " + what, x.guest(guest, what), want[what]);
            }
            due("seated", x.count(6), 0);
            due("who sit", x.count(7), 0);
            due("comes again", x.comes(guest, true), true);
            due("without a place", x.guest(guest, 3), -1);
            due("sits not", x.guest(guest, 4), 0);
            due("the place is free", x.seat(5, 0, 9), true);
        }
    }

    private static void seated() {
        CHECK.sentence("Promise 11: A guest is SEATED by hand (it leaves where it was): true");
        FirstIn x = Check.court(Edge.guests(10));
        for (int room = 0; room < 4; room++) {
            x.room(room, 10);
        }
        for (int guest = 0; guest < 10; guest++) {
            due("guest " + guest + " at " + (9 - guest), x.seat(guest, 0, 9 - guest), true);
            due("seated", x.count(6), guest + 1);
        }
        due("from 9 in room 0 to 9 in room 3", x.seat(0, 3, 9), true);
        due("room", x.guest(0, 2), 3);
        due("place", x.guest(0, 3), 9);
        due("seated", x.count(6), 10);
        due("9 in room 0 is free", x.seat(9, 0, 9), true);
        due("0 in room 0 is free", x.seat(0, 0, 0), true);
        due("9 in room 3 is free", x.seat(1, 3, 9), true);
        due("room", x.guest(1, 2), 3);
    }

    private static void seatedNowhere() {
        CHECK.sentence("Promise 11: false if there is no such guest who COMES, no such ROOM or PLACE");
        FirstIn x = Edge.seated(Edge.guests(3), Edge.ROW, 4, 2, 1, 0);
        x.room(Edge.TABLE, 1);
        x.room(Edge.TABLE, 10);
        x.comes(2, false);
        due("comes not", x.seat(2, 0, 3), false);
        for (int guest : Edge.beyond(0, 2)) {
            due("guest " + guest, x.seat(guest, 0, 3), false);
        }
        for (int room : Edge.beyond(0, 2)) {
            due("room " + room, x.seat(0, room, 0), false);
        }
        int[] places = {4, 1, 10};
        for (int room = 0; room < 3; room++) {
            for (int place : Edge.beyond(0, places[room] - 1)) {
                due("place " + place + " of room " + room, x.seat(0, room, place), false);
            }
        }
        due("room NONE, place NONE: as one who isn't seated", x.seat(0, -1, -1), false);
        due("guest 0 is where it was", x.guest(0, 3), 2);
        due("seated", x.count(6), 2);
        due("place 3 is free", x.seat(0, 0, 3), true);
        due("place 0 too", x.seat(0, 1, 0), true);
        due("place 9 too", x.seat(0, 2, 9), true);
        due("of a new object", new FirstIn().seat(0, 0, 0), false);
    }

    private static void somebodyHasIt() {
        CHECK.sentence("Promise 11: false if somebody has it");
        FirstIn x = Edge.seated(Edge.guests(10), Edge.ROW, 10, 0, 9);
        x.room(Edge.ROW, 10);
        for (int guest = 2; guest < 10; guest++) {
            due("0 by " + guest, x.seat(guest, 0, 0), false);
            due("9 by " + guest, x.seat(guest, 0, 9), false);
        }
        due("its own", x.seat(0, 0, 0), false);
        due("another one's", x.seat(0, 0, 9), false);
        due("it is where it was", x.guest(0, 3), 0);
        due("the same number in another room", x.seat(9, 1, 9), true);
        due("that one's", x.seat(0, 1, 9), false);
        x.leave(0);
        due("left", x.seat(9, 0, 0), true);
        due("free as well", x.seat(0, 1, 9), true);
    }

    private static void seatedWhoSits() {
        CHECK.sentence("Promise 11: false if it SITS");
        FirstIn x = Edge.seated(Edge.guests(10), Edge.ROW, 10, 0, 1);
        for (int guest : new int[] {0, 1}) {
            x.sits(guest, true);
            due("sits", x.seat(guest, 0, 5), false);
            due("it is where it was", x.guest(guest, 3), guest);
            x.sits(guest, false);
            due("sits no more", x.seat(guest, 0, 5 + guest), true);
        }
    }

    private static void leaves() {
        CHECK.sentence("Promise 12: A guest leaves its PLACE: true");
        for (int guest : new int[] {0, 9}) {
            FirstIn x = Check.court(Edge.guests(10));
            x.room(Edge.ROW, 10);
            x.seat(guest, 0, 9);
            x.seat(5, 0, 0);
            due("leaves", x.leave(guest), true);
            due("room", x.guest(guest, 2), -1);
            due("place", x.guest(guest, 3), -1);
            due("comes still", x.guest(guest, 0), 1);
            due("the other one stays", x.guest(5, 3), 0);
            due("seated", x.count(6), 1);
        }
    }

    private static void leavesNot() {
        CHECK.sentence("Promise 12: false if there is none such, it has none, or it SITS");
        FirstIn x = Edge.seated(Edge.guests(4), Edge.ROW, 4, 0, -1, 2, 3);
        x.comes(3, false);
        x.sits(2, true);
        for (int guest : Edge.beyond(0, 3)) {
            due("guest " + guest, x.leave(guest), false);
        }
        due("has none", x.leave(1), false);
        due("comes not", x.leave(3), false);
        due("sits", x.leave(2), false);
        due("it is where it was", x.guest(2, 3), 2);
        due("it sits", x.guest(2, 4), 1);
        x.sits(2, false);
        due("sits no more", x.leave(2), true);
        due("left already", x.leave(2), false);
        due("seated", x.count(6), 1);
        due("of a new object", new FirstIn().leave(0), false);
    }

    private static void sits() {
        CHECK.sentence("Promise 13: A guest who is SEATED SITS, or no more: true");
        for (int guest : new int[] {0, 9}) {
            FirstIn x = Check.court(Edge.guests(10));
            x.room(Edge.ROW, 10);
            x.room(Edge.DOOR, 10);
            x.seat(guest, 1, 9);
            for (int times = 0; times < 2; times++) {
                due("sits", x.sits(guest, true), true);
                due("it does", x.guest(guest, 4), 1);
                due("who sit", x.count(7), 1);
                due("no more", x.sits(guest, false), true);
                due("it doesn't", x.guest(guest, 4), 0);
                due("who sit", x.count(7), 0);
            }
        }
    }

    private static void sitsNot() {
        CHECK.sentence("Promise 13: false if there is none such, or it is so already");
        FirstIn x = Edge.seated(Edge.guests(4), Edge.ROW, 4, 0, -1, 2, 3);
        x.comes(3, false);
        for (int guest : Edge.beyond(0, 3)) {
            due("guest " + guest, x.sits(guest, true), false);
            due("guest " + guest + " no more", x.sits(guest, false), false);
        }
        due("isn't seated", x.sits(1, true), false);
        due("isn't seated, no more", x.sits(1, false), false);
        due("comes not", x.sits(3, true), false);
        due("no more already", x.sits(0, false), false);
        due("who sit", x.count(7), 0);
        x.sits(0, true);
        due("sits already", x.sits(0, true), false);
        due("who sit", x.count(7), 1);
        due("of a new object", new FirstIn().sits(0, true), false);
    }

    private static void counts() {
        CHECK.sentence("Promise 31: 0 guests to 8 RULES that REST");
        FirstIn none = new FirstIn();
        FirstIn most = Check.court(Edge.marked(10) + "mark v is a;mark w is a;mark x is a;mark y is a;"
            + "even m m by 1;".repeat(12));
        for (int room = 0; room < 4; room++) {
            most.room(Edge.ROW, 10);
        }
        Check.feed(most, Edge.padded("", 700));
        for (int guest = 0; guest < 10; guest++) {
            most.seat(guest, guest % 4, guest);
            most.sits(guest, true);
        }
        for (int rule = 0; rule < 12; rule++) {
            most.rest(rule, true);
        }
        int[] want = {10, 5, 12, 4, 700, 10, 10, 10, 12};
        for (int what = 0; what <= 8; what++) {
            due("none of " + what, none.count(what), 0);
            due("most of " + what, most.count(what), want[what]);
        }
        most.comes(9, false);
        most.sits(8, false);
        most.rest(11, false);
        most.end(699);
        int[] fewer = {10, 5, 12, 4, 699, 9, 9, 8, 11};
        for (int what = 0; what <= 8; what++) {
            due("one fewer of " + what, most.count(what), fewer[what]);
        }
    }

    private static void countsOfOthers() {
        CHECK.sentence("Promise 31: NONE for others");
        FirstIn none = new FirstIn();
        FirstIn x = Check.court(Edge.marked(10));
        for (int what : Edge.beyond(0, 8)) {
            due("what " + what, x.count(what), -1);
            due("what " + what + " of a new object", none.count(what), -1);
        }
    }
}
