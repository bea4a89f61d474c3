/** Promises 25 to 30 and the fourth part of 'Terms': the least and the mildest seatings, mending and evening. */
public final class EdgeSeatingTest {
    private static final Check CHECK = new Check();

    private EdgeSeatingTest() {
    }

    public static void main(String[] args) {
        sevenGuests();
        eightPlaces();
        asManyPlacesAsGuests();
        courseNought();
        theirOrder();
        leastOrMildest();
        whatIsLeastAfterAChange();
        eachAskedByTurns();
        alikeAtATable();
        whatOfLeast();
        bestOfWhom();
        mustAndWhereItIsNotTheSame();
        freePlaces();
        freeOfNone();
        withinTheLimit();
        limitsFarOff();
        whoSitStay();
        theFewestLeave();
        ofLikeOnesTheFirst();
        mendedOfNone();
        aTurnOfEight();
        coursesAndSteps();
        theGreatestSum();
        theFirstRow();
        evenedOfNone();
        nobodyComes();
        CHECK.close("EdgeSeatingTest");
    }

    private static void due(String what, long got, long want) {
        CHECK.due(what, got, want);
    }

    /** All that rests on seatings can't be asked: NONE, whatever else is right. */
    private static void cantBeAsked(String what, FirstIn x, int room) {
        for (int k = 0; k <= 3; k++) {
            due(what + ", least " + k, x.least(room, k), -1);
        }
        due(what + ", best", x.best(room, 0, false), -1);
        due(what + ", best mild", x.best(room, 0, true), -1);
        due(what + ", must", x.must(room, 0), -1);
        due(what + ", free", x.free(room, 0), -1);
        due(what + ", mended", x.mended(room, Edge.GREATEST, -1), -1);
        due(what + ", mended 0", x.mended(room, Edge.GREATEST, 0), -1);
    }

    /** So many guests in so many places, without rules. */
    private static void canBeAsked(String what, FirstIn x, int guests, int places) {
        int seatings = 1;
        for (int guest = 0; guest < guests; guest++) {
            seatings *= places - guest;
        }
        int[] want = {0, seatings, 0, 0};
        for (int k = 0; k <= 3; k++) {
            due(what + ", least " + k, x.least(0, k), want[k]);
        }
        for (int guest = 0; guest < guests; guest++) {
            due(what + ", best of " + guest, x.best(0, guest, false), guest);
            due(what + ", mildest of " + guest, x.best(0, guest, true), guest);
            due(what + ", must of " + guest, x.must(0, guest), guests == 1 && places == 1 ? 0 : -1);
            due(what + ", mended of " + guest, x.mended(0, 0, guest), guest);
        }
        for (int place = 0; place < places; place++) {
            due(what + ", free at " + place, x.free(0, place), guests);
        }
        due(what + ", mended", x.mended(0, 0, -1), 0);
    }

    private static void sevenGuests() {
        CHECK.sentence("Promises 25 to 29, Terms 4: at most 7 guests, else it can't be asked");
        for (int kind = 0; kind <= 4; kind++) {
            for (int guests = 1; guests <= 7; guests++) {
                canBeAsked(guests + " guests", Edge.inRoom(Edge.guests(guests), kind, 8), guests, 8);
            }
            for (int guests = 8; guests <= 10; guests++) {
                cantBeAsked(guests + " guests", Edge.inRoom(Edge.guests(guests), kind, 8), 0);
            }
        }
        CHECK.sentence("Promises 25 to 29, Terms 4: A SEATING gives each who COMES a PLACE");
        FirstIn x = Edge.inRoom(Edge.guests(10), Edge.ROW, 8);
        x.comes(1, false);
        x.comes(8, false);
        cantBeAsked("8 of 10 come", x, 0);
        x.comes(0, false);
        due("7 of 10 come", x.least(0, 1), 40320);
        int[] want = {-1, -1, 0, 1, 2, 3, 4, 5, -1, 6};
        for (int guest = 0; guest < 10; guest++) {
            due("best of " + guest, x.best(0, guest, false), want[guest]);
            due("mildest of " + guest, x.best(0, guest, true), want[guest]);
            due("mended of " + guest, x.mended(0, 0, guest), want[guest]);
        }
        x.comes(0, true);
        cantBeAsked("8 of 10 again", x, 0);
    }

    private static void eightPlaces() {
        CHECK.sentence("Promises 25 to 29, Terms 4: at most 8 PLACES, else it can't be asked");
        for (int kind = 0; kind <= 4; kind++) {
            for (int places = 1; places <= 8; places++) {
                canBeAsked(places + " places", Edge.inRoom("guest a;", kind, places), 1, places);
            }
            for (int places = 9; places <= 10; places++) {
                cantBeAsked(places + " places", Edge.inRoom("guest a;", kind, places), 0);
            }
        }
    }

    private static void asManyPlacesAsGuests() {
        CHECK.sentence("Promises 25 to 29: NONE if there are fewer PLACES than guests");
        for (int kind = 0; kind <= 4; kind++) {
            for (int guests = 2; guests <= 7; guests++) {
                cantBeAsked(guests + " guests in one place fewer", Edge.inRoom(Edge.guests(guests), kind, guests - 1), 0);
                canBeAsked(guests + " guests in as many", Edge.inRoom(Edge.guests(guests), kind, guests), guests, guests);
                canBeAsked(guests + " guests in one more", Edge.inRoom(Edge.guests(guests), kind, guests + 1), guests,
                    guests + 1);
            }
        }
        FirstIn x = Edge.inRoom(Edge.guests(2), Edge.ROW, 1);
        cantBeAsked("two in one", x, 0);
        x.comes(1, false);
        canBeAsked("one in one", x, 1, 1);
    }

    private static void courseNought() {
        CHECK.sentence("Terms 4: A SEATING in a ROOM gives each who COMES a PLACE of its own (COURSE 0)");
        FirstIn x = Edge.inRoom("guest a;guest b;guest c;above c b by 1;above b a by 1;", Edge.TURN, 3);
        due("a", x.must(0, 0), 2);
        due("b", x.must(0, 1), 1);
        due("c", x.must(0, 2), 0);
        due("one", x.least(0, 1), 1);
    }

    private static void best(String what, FirstIn x, boolean mild, int... want) {
        for (int guest = 0; guest < want.length; guest++) {
            due(what + ", " + guest, x.best(0, guest, mild), want[guest]);
        }
    }

    private static void theirOrder() {
        CHECK.sentence("Promise 26, Terms 4: They are told in the order of the first guest's PLACE, then the second one's");
        FirstIn above = Edge.inRoom("guest a;guest b;guest c;above c a by 1;", Edge.ROW, 4);
        best("a behind c", above, false, 1, 2, 0);
        best("a behind c, mild", above, true, 1, 2, 0);
        FirstIn apart = Edge.inRoom("guest a;guest b;guest c;apart a b by 1;", Edge.ROW, 4);
        best("a not beside b", apart, false, 0, 2, 1);
        best("a not beside b, mild", apart, true, 0, 2, 1);
        FirstIn ring = Edge.inRoom("guest a;guest b;apart a b by 1;", Edge.RING, 4);
        best("around", ring, false, 0, 2);
        FirstIn last = Edge.inRoom("guest a;guest b;guest c;guest d;guest e;guest f;guest g;mark m is b c d e f g;"
            + "above m a by 1;", Edge.ROW, 8);
        best("a at the foot", last, false, 6, 0, 1, 2, 3, 4, 5);
    }

    private static void leastOrMildest() {
        CHECK.sentence("Terms 4: LEAST: with the least WEIGHT of SLIGHTS in all");
        // b above a costs what a above b costs: one of two weights.
        for (int other = 4; other <= 6; other++) {
            FirstIn x = Edge.inRoom("guest a;guest b;above b a by 5;above a b by " + other + ";", Edge.ROW, 2);
            due("5 and " + other, x.least(0, 0), Math.min(5, other));
            due("how many of 5 and " + other, x.least(0, 1), other == 5 ? 2 : 1);
            best("5 and " + other, x, false, other < 5 ? 1 : 0, other < 5 ? 0 : 1);
        }
        CHECK.sentence("Terms 4: MILDEST: whose heaviest SLIGHT is least, of these those with the least WEIGHT in all");
        for (int heavy = 4; heavy <= 6; heavy++) {
            // Ahead: a first costs 5 and 5, b first costs the heavy one alone.
            FirstIn x = Edge.inRoom("guest a;guest b;above b a by 5;above b a by 5;above a b by " + heavy + ";", Edge.ROW, 2);
            due("least of 5 5 and " + heavy, x.least(0, 0), heavy);
            best("least of 5 5 and " + heavy, x, false, 1, 0);
            boolean two = heavy > 5;
            due("mildest of 5 5 and " + heavy, x.least(0, 2), two ? 10 : heavy);
            due("its heaviest of 5 5 and " + heavy, x.least(0, 3), two ? 5 : heavy);
            best("mildest of 5 5 and " + heavy, x, true, two ? 0 : 1, two ? 1 : 0);
        }
        FirstIn none = Edge.inRoom("guest a;guest b;above b a by 9;", Edge.ROW, 2);
        due("no slight, mildest", none.least(0, 2), 0);
        due("no slight, heaviest", none.least(0, 3), 0);
        FirstIn most = Edge.inRoom(Edge.marked(7) + "apart m m by 9;".repeat(12), Edge.DOOR, 8);
        due("three couples at one height", most.least(0, 0), 3 * 108);
        due("heaviest", most.least(0, 3), 9);
        FirstIn all = Edge.inRoom(Edge.marked(7) + "above m m by 9;".repeat(12), Edge.ROW, 8);
        due("all couples", all.least(0, 0), 21 * 108);
        due("all couples, mildest", all.least(0, 2), 21 * 108);
        due("all seatings", all.least(0, 1), 40320);
    }

    private static void whatIsLeastAfterAChange() {
        CHECK.sentence("Promises 25, 26, Terms 2: A RULE counts in a ROOM, if it doesn't REST, and both guests COME");
        // c and a can't but be slighted, and the more the more of them are there.
        FirstIn x = Edge.inRoom("guest a;guest b;guest c;above a c by 9;above c a by 9;above b a by 5;", Edge.ROW, 3);
        due("with c", x.least(0, 0), 9);
        due("with c, how many", x.least(0, 1), 3);
        due("with c, heaviest", x.least(0, 3), 9);
        x.comes(2, false);
        due("without c", x.least(0, 0), 0);
        due("without c, how many", x.least(0, 1), 3);
        due("without c, mildest", x.least(0, 2), 0);
        due("without c, heaviest", x.least(0, 3), 0);
        due("without c, mildest of a", x.best(0, 0, true), 1);
        x.comes(2, true);
        x.rest(0, true);
        due("one rests", x.least(0, 0), 0);
        due("one rests, how many", x.least(0, 1), 2);
        due("one rests, heaviest", x.least(0, 3), 0);
        x.rest(0, false);
        due("no more, heaviest", x.least(0, 3), 9);
        FirstIn light = Edge.inRoom("guest a;guest b;even a b by 9;even a b by 2;", Edge.ROW, 2);
        due("heavy", light.least(0, 3), 9);
        light.rest(0, true);
        due("light", light.least(0, 3), 2);
        due("light, in all", light.least(0, 2), 2);
    }

    /** What is found of one kind of seating stands for no other kind, nor for another room. */
    private static void eachAskedByTurns() {
        CHECK.sentence("Promises 25 to 29: LEAST, MILDEST and MENDED are not the same");
        FirstIn x = Edge.inRoom("guest a;guest b;guest c;above b a by 5;above b a by 5;above a b by 6;above c a by 1;",
            Edge.ROW, 3);
        x.room(Edge.ROW, 4);
        for (int times = 0; times < 3; times++) {
            due("least", x.least(0, 0), 6);
            due("mildest", x.least(0, 2), 10);
            due("mended within 0", x.mended(0, 0, -1), -1);
            due("mended within 6", x.mended(0, 6, 0), 2);
            due("mended within 11", x.mended(0, 11, 0), 0);
            due("best", x.best(0, 0, false), 2);
            due("best, mild", x.best(0, 0, true), 1);
            due("best, mild, of b", x.best(0, 1, true), 2);
            due("mended within 10", x.mended(0, 10, 0), 1);
            due("best of c", x.best(0, 2, false), 1);
            due("seatings", x.least(0, 1), 2);
            due("in another room", x.least(1, 1), 8);
            due("in another room, b", x.best(1, 1, false), 0);
            due("in another room, mild", x.best(1, 1, true), 2);
        }
        x.rest(3, true);
        due("mended within 6, one rests", x.mended(0, 6, 0), 1);
        due("mended within 6, one rests, c", x.mended(0, 6, 2), 2);
        x.rest(3, false);
        due("mended within 6, no more", x.mended(0, 6, 0), 2);
    }

    private static void alikeAtATable() {
        CHECK.sentence("Promise 25, Terms 2: TABLE: it can't be told, if these are alike; BESIDE by 2");
        due("above", Edge.inRoom("guest a;guest b;guest c;above a b by 5;", Edge.TABLE, 4).least(0, 1), 16);
        due("even", Edge.inRoom("guest a;guest b;guest c;even a b by 5;", Edge.TABLE, 4).least(0, 1), 8);
        due("apart", Edge.inRoom("guest a;guest b;guest c;apart a b by 5;", Edge.TABLE, 4).least(0, 1), 16);
        due("apart and even", Edge.inRoom("guest a;guest b;guest c;apart a b by 5;even a c by 5;", Edge.TABLE, 4).least(0, 1), 4);
        due("two tables", Edge.inRoom("guest a;guest b;even a b by 5;apart a b by 5;", Edge.TABLE, 5).least(0, 1), 4);
    }

    private static void whatOfLeast() {
        CHECK.sentence("Promise 25: LEAST 0 to 3; NONE for others");
        FirstIn x = Edge.inRoom("guest a;guest b;above b a by 5;above b a by 5;above a b by 6;", Edge.ROW, 2);
        int[] want = {6, 1, 10, 5};
        for (int what = 0; what <= 3; what++) {
            due("what " + what, x.least(0, what), want[what]);
        }
        for (int what : Edge.beyond(0, 3)) {
            due("what " + what, x.least(0, what), -1);
        }
        for (int room : Edge.beyond(0, 0)) {
            cantBeAsked("room " + room, x, room);
        }
        cantBeAsked("a new object", new FirstIn(), 0);
    }

    private static void bestOfWhom() {
        CHECK.sentence("Promises 26, 27: NONE likewise, or if it doesn't COME");
        for (int guests : new int[] {1, 3, 7}) {
            FirstIn x = Edge.inRoom(Edge.guests(guests), Edge.ROW, 8);
            for (int guest : Edge.beyond(0, guests - 1)) {
                due("best of " + guest, x.best(0, guest, false), -1);
                due("mildest of " + guest, x.best(0, guest, true), -1);
                due("must of " + guest, x.must(0, guest), -1);
            }
        }
        FirstIn x = Edge.inRoom("guest a;guest b;above b a by 1;", Edge.ROW, 2);
        due("must of b", x.must(0, 1), 0);
        x.comes(1, false);
        due("best of b", x.best(0, 1, false), -1);
        due("mildest of b", x.best(0, 1, true), -1);
        due("must of b", x.must(0, 1), -1);
        due("best of a", x.best(0, 0, false), 0);
    }

    private static void mustAndWhereItIsNotTheSame() {
        CHECK.sentence("Promise 27: The PLACE that a guest has in all LEAST SEATINGS; NONE if it isn't the same");
        FirstIn x = Edge.inRoom(Edge.guests(4) + "mark n is b c d;above n a by 2;above b c by 1;above b d by 1;", Edge.ROW, 4);
        due("two seatings", x.least(0, 1), 2);
        int[] want = {3, 0, -1, -1};
        for (int guest = 0; guest < 4; guest++) {
            due("must of " + guest, x.must(0, guest), want[guest]);
        }
        FirstIn door = Edge.inRoom("guest a;guest b;above a b by 2;", Edge.DOOR, 3);
        due("b below both", door.must(0, 1), 2);
        due("a at 0 or 1", door.must(0, 0), -1);
        FirstIn all = Edge.inRoom(Edge.guests(7) + "above a b by 1;above b c by 1;above c d by 1;above d e by 1;"
            + "above e f by 1;above f g by 1;", Edge.ROW, 7);
        for (int guest = 0; guest < 7; guest++) {
            due("a chain, must of " + guest, all.must(0, guest), guest);
        }
        // In MILDEST seatings b is elsewhere: that does not matter here.
        FirstIn mild = Edge.inRoom("guest a;guest b;above b a by 5;above b a by 5;above a b by 6;", Edge.ROW, 2);
        due("of LEAST alone", mild.must(0, 0), 1);
    }

    private static void freePlaces() {
        CHECK.sentence("Promise 28: How many guests have a PLACE in some LEAST SEATING");
        FirstIn x = Edge.inRoom(Edge.guests(4) + "mark n is b c d;above n a by 2;above b c by 1;above b d by 1;", Edge.ROW, 4);
        int[] want = {1, 2, 2, 1};
        for (int place = 0; place < 4; place++) {
            due("at " + place, x.free(0, place), want[place]);
        }
        FirstIn door = Edge.inRoom("guest a;guest b;even a b by 9;apart a b by 1;", Edge.DOOR, 3);
        int[] two = {2, 2, 0};
        for (int place = 0; place < 3; place++) {
            due("at a door, " + place, door.free(0, place), two[place]);
        }
        FirstIn mild = Edge.inRoom("guest a;guest b;above b a by 5;above b a by 5;above a b by 6;", Edge.ROW, 2);
        due("of LEAST alone", mild.free(0, 0), 1);
        FirstIn seven = Edge.inRoom(Edge.guests(7), Edge.RING, 8);
        due("all seven at the last", seven.free(0, 7), 7);
        FirstIn last = Edge.inRoom(Edge.guests(10), Edge.ROW, 8);
        for (int guest = 0; guest < 9; guest++) {
            last.comes(guest, false);
        }
        due("the tenth guest", last.free(0, 0), 1);
        due("the tenth guest's place", last.best(0, 9, true), 0);
    }

    private static void freeOfNone() {
        CHECK.sentence("Promise 28: NONE likewise, or if there is none such");
        for (int places : new int[] {1, 2, 8}) {
            FirstIn x = Edge.inRoom("guest a;", Edge.ROW, places);
            due("the first", x.free(0, 0), 1);
            due("the last", x.free(0, places - 1), 1);
            for (int place : Edge.beyond(0, places - 1)) {
                due("place " + place + " of " + places, x.free(0, place), -1);
            }
        }
        FirstIn nine = Edge.inRoom("guest a;", Edge.ROW, 9);
        due("place 8 of 9", nine.free(0, 8), -1);
        due("place 0 of 9", nine.free(0, 0), -1);
    }

    private static void mended(String what, FirstIn x, int limit, int moved, int... want) {
        due(what + ", who leave within " + limit, x.mended(0, limit, -1), moved);
        for (int guest = 0; guest < want.length; guest++) {
            due(what + ", " + guest + " within " + limit, x.mended(0, limit, guest), want[guest]);
        }
    }

    /** a at the foot, c at the head of a row of 4: a over b by 4 and b over c by 2 are slighted. */
    private static FirstIn slighted() {
        return Edge.seated("guest a;guest b;guest c;above a b by 4;above b c by 2;", Edge.ROW, 4, 3, 1, 0);
    }

    private static void withinTheLimit() {
        CHECK.sentence("Promise 29, Terms 4: of all SEATINGS with a WEIGHT in all of a limit at most; NONE if none within");
        FirstIn x = slighted();
        mended("6 in all", x, 7, 0, 3, 1, 0);
        mended("6 in all", x, 6, 0, 3, 1, 0);
        mended("less", x, 5, 1, 3, 1, 2);
        mended("4 in all", x, 4, 1, 3, 1, 2);
        mended("less", x, 3, 2, 0, 1, 2);
        mended("2 in all", x, 2, 2, 0, 1, 2);
        mended("less", x, 1, 2, 0, 1, 2);
        mended("0", x, 0, 2, 0, 1, 2);
        mended("below", x, -1, -1, -1, -1, -1);
        FirstIn most = Edge.seated(Edge.marked(7) + "above m m by 9;".repeat(12), Edge.ROW, 7, 6, 5, 4, 3, 2, 1, 0);
        mended("all slighted", most, 21 * 108, 0, 6, 5, 4, 3, 2, 1, 0);
        mended("all slighted, one less", most, 21 * 108 - 1, -1, -1, -1);
    }

    private static void limitsFarOff() {
        CHECK.sentence("Promise 29: a limit far off");
        for (int limit : new int[] {Edge.GREATEST, Edge.GREATEST - 1, 1 << 16, 256, 100}) {
            mended("great", slighted(), limit, 0, 3, 1, 0);
        }
        for (int limit : new int[] {Edge.LEAST, Edge.LEAST + 1, -65536, -256, -2, -1}) {
            mended("below", slighted(), limit, -1, -1, -1, -1);
            mended("below, without rules", Edge.inRoom("guest a;", Edge.ROW, 1), limit, -1, -1);
        }
        FirstIn x = slighted();
        for (int limit : new int[] {6, 5, 6, -1, 0, 5}) {
            mended("one after the other", x, limit, limit == 6 ? 0 : limit == 5 ? 1 : limit == 0 ? 2 : -1);
        }
    }

    private static void whoSitStay() {
        CHECK.sentence("Promise 29, Terms 4: guests who are SEATED in that ROOM by hand and SIT stay");
        FirstIn x = slighted();
        x.sits(0, true);
        mended("a stays", x, 4, 1, 3, 1, 2);
        mended("a stays at the foot", x, 3, -1, -1, -1, -1);
        x.sits(1, true);
        mended("a and b stay", x, 5, 1, 3, 1, 2);
        x.sits(2, true);
        mended("all stay", x, 6, 0, 3, 1, 0);
        mended("all stay, too heavy", x, 5, -1, -1, -1, -1);
        x.sits(0, false);
        mended("b and c stay", x, 5, -1, -1, -1, -1);
        x.sits(1, false);
        mended("c stays at the head", x, 2, 2, 1, 2, 0);
        mended("c stays at the head", x, 1, -1, -1, -1, -1);
        FirstIn late = Edge.seated(Edge.guests(7), Edge.ROW, 8, -1, -1, -1, -1, -1, 1, 0);
        late.sits(5, true);
        late.sits(6, true);
        mended("who come late go around them", late, 0, 0, 2, 3, 4, 5, 6, 1, 0);
        FirstIn other = Check.court("guest a;guest b;above b a by 1;");
        other.room(Edge.ROW, 2);
        other.room(Edge.ROW, 2);
        other.seat(0, 1, 0);
        other.sits(0, true);
        other.seat(1, 1, 1);
        other.sits(1, true);
        mended("who sit in another room are free", other, 0, 0, 1, 0);
        due("not there", other.mended(1, 0, -1), -1);
        due("as they sit", other.mended(1, 1, 0), 0);
    }

    private static void theFewestLeave() {
        CHECK.sentence("Promise 29, Terms 4: that in which the fewest who are SEATED in that ROOM by hand leave their PLACES");
        // Nobody leaves, though others would be lighter and earlier.
        FirstIn x = Edge.seated(Edge.guests(3) + "above a b by 1;", Edge.ROW, 3, 2, 1, 0);
        mended("all at home", x, 1, 0, 2, 1, 0);
        mended("one couple changes", x, 0, 2, 0, 1, 2);
        FirstIn others = Check.court(Edge.guests(3) + "above a b by 1;");
        others.room(Edge.ROW, 3);
        others.room(Edge.ROW, 3);
        others.seat(0, 1, 2);
        others.seat(1, 0, 1);
        mended("a is seated in another room", others, 0, 0, 0, 1, 2);
        others.seat(1, 0, 0);
        mended("b at the head must leave", others, 0, 1, 0, 1, 2);
        mended("or not", others, 1, 0, 1, 0, 2);
        FirstIn seven = Edge.seated(Edge.guests(7) + "above g a by 1;above g b by 1;above g c by 1;above g d by 1;"
            + "above g e by 1;above g f by 1;", Edge.ROW, 7, 0, 1, 2, 3, 4, 5, 6);
        mended("two change", seven, 0, 2, 6, 1, 2, 3, 4, 5, 0);
        mended("none", seven, 6, 0, 0, 1, 2, 3, 4, 5, 6);
    }

    private static void ofLikeOnesTheFirst() {
        CHECK.sentence("Promise 29, Terms 4: of like ones the first");
        FirstIn x = Edge.seated(Edge.guests(2) + "apart a b by 1;", Edge.ROW, 4, 1, 2);
        mended("a goes to the head", x, 0, 1, 0, 2);
        FirstIn late = Edge.seated(Edge.guests(4), Edge.ROW, 6, -1, 0, -1, 2);
        mended("late ones at the first places", late, 0, 0, 1, 0, 3, 2);
    }

    private static void mendedOfNone() {
        CHECK.sentence("Promise 29: how many leave their PLACES (guest NONE), or the PLACE of a guest; NONE likewise");
        for (int guests : new int[] {1, 3, 7}) {
            FirstIn x = Edge.inRoom(Edge.guests(guests), Edge.ROW, 8);
            due("the last", x.mended(0, 0, guests - 1), guests - 1);
            for (int guest : Edge.beyond(-1, guests - 1)) {
                due("guest " + guest + " of " + guests, x.mended(0, 0, guest), -1);
            }
        }
        FirstIn x = slighted();
        x.comes(0, false);
        due("comes not", x.mended(0, 9, 0), -1);
        due("b stays", x.mended(0, 9, 1), 1);
        due("none leaves", x.mended(0, 9, -1), 0);
    }

    private static void evened(String what, FirstIn x, int sum, int... row) {
        due(what + ", sum in " + row.length, x.evened(0, row.length, -1), sum);
        for (int k = 0; k < row.length; k++) {
            due(what + ", course " + k + " of " + row.length, x.evened(0, row.length, k), row[k]);
        }
        for (int k : Edge.beyond(-1, row.length - 1)) {
            due(what + ", course " + k + " of " + row.length, x.evened(0, row.length, k), -1);
        }
    }

    private static void aTurnOfEight() {
        CHECK.sentence("Promise 30: NONE if it is no TURN of 8 PLACES at most");
        for (int kind = 0; kind <= 4; kind++) {
            for (int places = 1; places <= 10; places++) {
                FirstIn x = Edge.inRoom("guest a;", kind, places);
                boolean can = kind == Edge.TURN && places <= 8;
                for (int courses = 1; courses <= 3; courses++) {
                    String what = "kind " + kind + " of " + places + " in " + courses;
                    due(what, x.evened(0, courses, -1), can ? 0 : -1);
                    due(what + ", the first", x.evened(0, courses, 0), can ? 0 : -1);
                    due(what + ", the last", x.evened(0, courses, courses - 1), can ? 0 : -1);
                }
            }
        }
    }

    private static void coursesAndSteps() {
        CHECK.sentence("Promise 30, Terms 4: k COURSES (1 .. 3), all go s PLACES on (0 .. n - 1, from p to"
            + " the rest of p and s by n)");
        for (int places = 2; places <= 8; places++) {
            // b stands one ahead of a; only the last step takes a to the head and b to the foot.
            FirstIn x = Edge.seated("guest a;guest b;above a b by 5;", Edge.TURN, places, 1, 0);
            evened("round the end of " + places, x, 0, places - 1);
            evened("round the end of " + places, x, 0, places - 1, places - 1);
            evened("round the end of " + places, x, 0, places - 1, places - 1, places - 1);
            FirstIn foot = Edge.seated("guest a;guest b;above a b by 5;", Edge.TURN, places, places - 1, 0);
            evened("one step in " + places, foot, 0, 1);
            FirstIn well = Edge.seated("guest a;guest b;above a b by 5;", Edge.TURN, places, 0, places - 1);
            evened("no step in " + places, well, 0, 0, 0, 0);
        }
        FirstIn light = Edge.seated("guest a;guest b;above a b by 1;", Edge.TURN, 3, 1, 0);
        evened("by 1", light, 0, 2, 2);
        FirstIn tenth = Check.court(Edge.guests(10) + "above j a by 1;");
        tenth.room(Edge.TURN, 3);
        tenth.seat(9, 0, 1);
        tenth.seat(0, 0, 0);
        evened("the tenth guest", tenth, 0, 2, 2);
        tenth.room(Edge.TURN, 1);
        due("one place, the first course", tenth.evened(1, 2, 0), 0);
        due("one place, the second course", tenth.evened(1, 2, 1), 0);
        FirstIn one = Edge.seated("guest a;guest b;even a b by 5;", Edge.TURN, 1, 0);
        evened("one place", one, 0, 0);
        evened("one place", one, 0, 0, 0, 0);
        // Apart: around the end they are no more beside one another, as PLACES are BESIDE by their numbers.
        FirstIn apart = Edge.seated("guest a;guest b;apart a b by 5;", Edge.TURN, 8, 0, 1);
        evened("the end parts them", apart, 0, 7, 7);
    }

    private static void theGreatestSum() {
        CHECK.sentence("Promise 30, Terms 4: with which the greatest sum of what one guest MINDS in all COURSES is least");
        FirstIn two = Edge.seated("guest a;guest b;even a b by 9;", Edge.TURN, 2, 0, 1);
        evened("two", two, 9, 0);
        evened("two", two, 9, 0, 1);
        evened("two", two, 18, 0, 0, 1);
        // c minds 2 in each course but the one in which it is first.
        FirstIn three = Edge.seated(Edge.marked(3) + "even m m by 1;", Edge.TURN, 3, 0, 1, 2);
        evened("three", three, 2, 0);
        evened("three", three, 3, 0, 1);
        evened("three", three, 3, 0, 1, 2);
        FirstIn all = Edge.seated(Edge.marked(8) + "above m m by 9;".repeat(12), Edge.TURN, 8, 0, 1, 2, 3, 4, 5, 6, 7);
        evened("each minds all ahead", all, 7 * 108, 0);
        evened("each minds all ahead", all, 10 * 108, 0, 4);
        FirstIn nobody = Edge.inRoom("guest a;guest b;even a b by 9;", Edge.TURN, 8);
        evened("nobody is seated", nobody, 0, 0, 0, 0);
    }

    private static void theFirstRow() {
        CHECK.sentence("Promise 30, Terms 4: the row of s: of like ones the first");
        // With a and b of three places: a is first in steps 0 and 1, b in 2.
        FirstIn x = Edge.seated("guest a;guest b;even a b by 4;", Edge.TURN, 3, 0, 1);
        evened("of three places", x, 4, 0);
        evened("of three places", x, 4, 0, 2);
        evened("of three places", x, 8, 0, 0, 2);
        // b minds less than a: that a is first twice is least.
        FirstIn odd = Edge.seated("guest a;guest b;above a b by 4;above b a by 2;", Edge.TURN, 3, 0, 1);
        evened("unlike weights", odd, 2, 0);
        evened("unlike weights", odd, 4, 0, 0);
        evened("unlike weights", odd, 4, 0, 0, 2);
    }

    private static void evenedOfNone() {
        CHECK.sentence("Promise 30: NONE if there are none such");
        FirstIn x = Edge.inRoom("guest a;", Edge.TURN, 8);
        for (int room : Edge.beyond(0, 0)) {
            due("room " + room, x.evened(room, 1, -1), -1);
            due("room " + room + ", 0", x.evened(room, 1, 0), -1);
        }
        for (int courses : Edge.beyond(1, 3)) {
            due("courses " + courses, x.evened(0, courses, -1), -1);
            due("courses " + courses + ", 0", x.evened(0, courses, 0), -1);
        }
        FirstIn noGuests = new FirstIn();
        noGuests.room(Edge.TURN, 8);
        evened("without guests", noGuests, 0, 0, 0, 0);
        due("of a new object", new FirstIn().evened(0, 1, -1), -1);
    }

    private static void nobodyComes() {
        CHECK.sentence("Promises 25 to 29: nobody COMES: one SEATING");
        FirstIn x = Edge.inRoom("guest a;", Edge.ROW, 8);
        x.comes(0, false);
        FirstIn noGuests = new FirstIn();
        noGuests.room(Edge.ROW, 8);
        FirstIn nine = new FirstIn();
        nine.room(Edge.ROW, 9);
        for (FirstIn none : new FirstIn[] {x, noGuests}) {
            int[] want = {0, 1, 0, 0};
            for (int what = 0; what <= 3; what++) {
                due("least " + what, none.least(0, what), want[what]);
            }
            due("best", none.best(0, 0, false), -1);
            due("must", none.must(0, 0), -1);
            due("free", none.free(0, 7), 0);
            due("free behind", none.free(0, 8), -1);
            due("mended", none.mended(0, 0, -1), 0);
            due("mended of a", none.mended(0, 0, 0), -1);
            due("mended below 0", none.mended(0, -1, -1), -1);
        }
        cantBeAsked("9 places", nine, 0);
    }
}
