/** Promises 25 to 30: the least and the mildest seatings, mending and evening; answers by hand from the document. */
public final class SeatingTest {
    private static final int ROW = 0;
    private static final int TABLE = 1;
    private static final int RING = 2;
    private static final int DOOR = 3;
    private static final int TURN = 4;
    private static final Check CHECK = new Check();

    private SeatingTest() {
    }

    public static void main(String[] args) {
        least();
        mildest();
        whatCanBeAsked();
        mustAndFree();
        mended();
        mendedWhoSit();
        evened();
        evenedRefused();
        whatStandsAfterAChange();
        CHECK.close("SeatingTest");
    }

    private static void due(String what, long got, long want) {
        CHECK.due(what, got, want);
    }

    private static void best(FirstIn x, String what, boolean mild, int... want) {
        for (int guest = 0; guest < want.length; guest++) {
            due(what + " " + guest, x.best(0, guest, mild), want[guest]);
        }
    }

    private static FirstIn inRoom(String text, int kind, int places) {
        FirstIn x = Check.court(text);
        x.room(kind, places);
        return x;
    }

    private static void least() {
        FirstIn row = inRoom("guest a; guest b; guest c; above c a by 3; above b a by 1;", ROW, 4);
        due("weight", row.least(0, 0), 0);
        // a behind both: of 24 seatings a third
        due("how many", row.least(0, 1), 8);
        best(row, "row", false, 2, 0, 1);
        FirstIn free = inRoom("guest a; guest b; guest c; guest d; guest e; guest f; guest g;", ROW, 8);
        due("all of 7 in 8", free.least(0, 1), 40320);
        due("no weight", free.least(0, 0), 0);
        best(free, "free", false, 0, 1, 2, 3, 4, 5, 6);
        FirstIn ring = inRoom("guest a; guest b; guest c; apart a b by 2; apart b c by 3; apart a c by 4;", RING, 3);
        due("all beside", ring.least(0, 0), 9);
        due("all alike", ring.least(0, 1), 6);
        due("heaviest", ring.least(0, 3), 4);
        FirstIn door = inRoom("guest a; guest b; above a b by 2; even a b by 1;", DOOR, 4);
        due("above at another height", door.least(0, 0), 1);
        due("a 0 1, b 2 3", door.least(0, 1), 4);
        best(door, "door", false, 0, 2);
        FirstIn table = inRoom("guest a; guest b; guest c; even a b by 5; apart a c by 1; above c b by 3;", TABLE, 4);
        due("table", table.least(0, 0), 0);
        // a and b across, c above and not on a's side
        due("table how many", table.least(0, 1), 2);
        best(table, "table", false, 2, 3, 1);
        FirstIn turn = inRoom("guest a; guest b; above b a by 5;", TURN, 3);
        due("turn in course 0", turn.least(0, 1), 3);
        best(turn, "turn", false, 1, 0);
    }

    private static void mildest() {
        // b above a twice (4 and 4), or a above b once (5)
        FirstIn x = inRoom("guest a; guest b; above b a by 4; above b a by 4; above a b by 5;", ROW, 2);
        due("least weight", x.least(0, 0), 5);
        best(x, "least", false, 1, 0);
        due("mildest weight", x.least(0, 2), 8);
        due("its heaviest", x.least(0, 3), 4);
        best(x, "mildest", true, 0, 1);
        FirstIn none = inRoom("guest a; guest b; above b a by 4;", ROW, 3);
        due("none heavy", none.least(0, 3), 0);
        due("no weight", none.least(0, 2), 0);
        best(none, "the first of those", true, 1, 0);
        // Of those as mild the lightest: 3 3 against 3
        FirstIn light = inRoom("guest a; guest b; guest c; above b a by 3; above c a by 3; above a b by 3;", ROW, 3);
        due("light", light.least(0, 2), 3);
        due("heavy", light.least(0, 3), 3);
        best(light, "light", true, 1, 2, 0);
    }

    private static void refused(FirstIn x, String what, int room) {
        for (int k = 0; k <= 3; k++) {
            due(what + " least " + k, x.least(room, k), -1);
        }
        due(what + " best", x.best(room, 0, false), -1);
        due(what + " mild", x.best(room, 0, true), -1);
        due(what + " must", x.must(room, 0), -1);
        due(what + " free", x.free(room, 0), -1);
        due(what + " mended", x.mended(room, 1000, -1), -1);
        due(what + " mended 0", x.mended(room, 1000, 0), -1);
    }

    private static void whatCanBeAsked() {
        FirstIn x = inRoom("guest a; guest b; guest c; guest d; guest e; guest f; guest g; guest h;", ROW, 8);
        x.room(ROW, 9);
        x.room(ROW, 6);
        refused(x, "8 guests", 0);
        x.comes(7, false);
        due("7 guests in 8", x.least(0, 0), 0);
        refused(x, "9 places", 1);
        refused(x, "7 guests in 6", 2);
        x.comes(6, false);
        due("6 guests in 6", x.least(2, 1), 720);
        refused(x, "room 3", 3);
        refused(x, "room -1", -1);
        refused(x, "room great", Integer.MAX_VALUE);
        due("what 4", x.least(0, 4), -1);
        due("what -1", x.least(0, -1), -1);
        for (int guest : new int[] {-2, 6, 7, 8, 10, Integer.MAX_VALUE, Integer.MIN_VALUE}) {
            due("best of " + guest, x.best(0, guest, false), -1);
            due("mild of " + guest, x.best(0, guest, true), -1);
            due("must of " + guest, x.must(0, guest), -1);
            due("mended of " + guest, x.mended(0, 9, guest), -1);
        }
        due("best of NONE", x.best(0, -1, false), -1);
        due("must of NONE", x.must(0, -1), -1);
        due("place 8", x.free(0, 8), -1);
        due("place -1", x.free(0, -1), -1);
        due("place great", x.free(0, Integer.MAX_VALUE), -1);
        for (int guest = 0; guest < 6; guest++) {
            x.comes(guest, false);
        }
        due("nobody: weight", x.least(0, 0), 0);
        due("nobody: one seating", x.least(0, 1), 1);
        due("nobody: mildest", x.least(0, 3), 0);
        due("nobody: free", x.free(0, 7), 0);
        due("nobody: mended", x.mended(0, 0, -1), 0);
        due("nobody: below 0", x.mended(0, -1, -1), -1);
    }

    private static void mustAndFree() {
        FirstIn x = inRoom("guest a; guest b; guest c; above c a by 3; above c b by 1;", ROW, 3);
        due("c must be first", x.must(0, 2), 0);
        due("a may be 1 or 2", x.must(0, 0), -1);
        due("b may be 1 or 2", x.must(0, 1), -1);
        due("at the head", x.free(0, 0), 1);
        due("then", x.free(0, 1), 2);
        due("last", x.free(0, 2), 2);
        FirstIn wide = inRoom("guest a; guest b; even a b by 3; apart a b by 1;", DOOR, 3);
        // At one height they are beside one another: 1; else 3
        due("weight", wide.least(0, 0), 1);
        due("seatings", wide.least(0, 1), 2);
        due("place 2 stays free", wide.free(0, 2), 0);
        due("place 0", wide.free(0, 0), 2);
        FirstIn one = inRoom("guest a;", RING, 1);
        due("one", one.must(0, 0), 0);
        due("one", one.free(0, 0), 1);
    }

    private static FirstIn seated() {
        FirstIn x = inRoom("guest a; guest b; guest c; above a b by 4; above b c by 2;", ROW, 4);
        x.seat(0, 0, 3);
        x.seat(1, 0, 1);
        x.seat(2, 0, 0);
        return x;
    }

    private static void mended(FirstIn x, int limit, int moved, int... want) {
        due("moved within " + limit, x.mended(0, limit, -1), moved);
        for (int guest = 0; guest < want.length; guest++) {
            due("place within " + limit + " of " + guest, x.mended(0, limit, guest), want[guest]);
        }
    }

    private static void mended() {
        FirstIn x = seated();
        mended(x, 6, 0, 3, 1, 0);
        mended(x, Integer.MAX_VALUE, 0, 3, 1, 0);
        // 4 or less: c alone goes behind b, to 2; a or b alone mend nothing
        mended(x, 5, 1, 3, 1, 2);
        mended(x, 4, 1, 3, 1, 2);
        // 2 or less: two move; a ahead of b
        mended(x, 3, 2, 0, 1, 2);
        mended(x, 0, 2, 0, 1, 2);
        mended(x, -1, -1, -1, -1, -1);
        mended(x, Integer.MIN_VALUE, -1, -1);
        x.leave(2);
        mended(x, 5, 0, 3, 1, 2);
        x.comes(2, false);
        mended(x, 5, 0, 3, 1, -1);
        mended(x, 0, 1, 0, 1, -1);
    }

    private static void mendedWhoSit() {
        FirstIn x = seated();
        x.sits(2, true);
        mended(x, 6, 0, 3, 1, 0);
        // c stays at the head, so a finds a place ahead of b only if b moves too
        mended(x, 2, 2, 1, 2, 0);
        mended(x, 1, -1, -1, -1, -1);
        x.room(ROW, 4);
        // Who sits in another room is free in this one
        due("room 1", x.mended(1, 0, -1), 0);
        due("a", x.mended(1, 0, 0), 0);
        due("b", x.mended(1, 0, 1), 1);
        due("c", x.mended(1, 0, 2), 2);
        FirstIn late = inRoom("guest a; guest b; guest c;", ROW, 3);
        late.seat(2, 0, 0);
        late.sits(2, true);
        mended(late, 0, 0, 1, 2, 0);
    }

    private static void evened(FirstIn x, int courses, int sum, int... row) {
        due(courses + " sum", x.evened(0, courses, -1), sum);
        for (int k = 0; k < row.length; k++) {
            due(courses + " course " + k, x.evened(0, courses, k), row[k]);
        }
        due(courses + " behind", x.evened(0, courses, courses), -1);
    }

    private static void evened() {
        // Steps 0: a b c; 1: c a b; 2: b c a; each minds who is higher
        FirstIn x = inRoom("guest a; guest b; guest c; mark m is a b c; even m m by 1;", TURN, 3);
        x.seat(0, 0, 0);
        x.seat(1, 0, 1);
        x.seat(2, 0, 2);
        evened(x, 1, 2, 0);
        evened(x, 2, 3, 0, 1);
        evened(x, 3, 3, 0, 1, 2);
        FirstIn above = inRoom("guest a; guest b; above a b by 7;", TURN, 4);
        above.seat(0, 0, 3);
        above.seat(1, 0, 1);
        // a at 3, 0, 1, 2; b at 1, 2, 3, 0
        evened(above, 1, 0, 1);
        evened(above, 2, 0, 1, 1);
        evened(above, 3, 0, 1, 1, 1);
        above.leave(1);
        evened(above, 3, 0, 0, 0, 0);
        FirstIn beside = inRoom("guest a; guest b; apart a b by 2;", TURN, 3);
        beside.seat(0, 0, 1);
        beside.seat(1, 0, 2);
        // Around the end they are not beside one another
        evened(beside, 2, 0, 1, 1);
        FirstIn one = inRoom("guest a; guest b; even a b by 2;", TURN, 1);
        one.seat(0, 0, 0);
        evened(one, 3, 0, 0, 0, 0);
    }

    private static void evenedRefused() {
        FirstIn x = inRoom("guest a;", TURN, 8);
        x.room(TURN, 9);
        x.room(ROW, 3);
        due("8 places", x.evened(0, 1, -1), 0);
        due("9 places", x.evened(1, 1, -1), -1);
        due("a row", x.evened(2, 1, -1), -1);
        due("room 3", x.evened(3, 1, -1), -1);
        due("room -1", x.evened(-1, 1, -1), -1);
        due("0 courses", x.evened(0, 0, -1), -1);
        due("4 courses", x.evened(0, 4, 0), -1);
        due("-1 courses", x.evened(0, -1, -1), -1);
        due("courses great", x.evened(0, Integer.MAX_VALUE, 0), -1);
        due("k -2", x.evened(0, 3, -2), -1);
        due("k 3", x.evened(0, 3, 3), -1);
        due("k great", x.evened(0, 3, Integer.MAX_VALUE), -1);
        due("k least", x.evened(0, 3, Integer.MIN_VALUE), -1);
    }

    /** What was found out must not outlive a change. */
    private static void whatStandsAfterAChange() {
        FirstIn x = inRoom("guest a; guest b; above b a by 4; above a b by 3;", ROW, 2);
        due("b first", x.best(0, 0, false), 1);
        due("weight", x.least(0, 0), 3);
        x.rest(0, true);
        due("a first", x.best(0, 0, false), 0);
        due("no weight", x.least(0, 0), 0);
        due("mild", x.best(0, 0, true), 0);
        x.rest(0, false);
        due("b first", x.best(0, 0, true), 1);
        x.comes(1, false);
        due("a alone", x.best(0, 0, false), 0);
        due("two seatings", x.least(0, 1), 2);
        x.comes(1, true);
        due("b first", x.best(0, 0, false), 1);
        Check.feed(x, "guest a; guest b; above a b by 4;");
        x.court();
        due("another court", x.best(0, 0, false), 0);
        Check.feed(x, "guest a; guest b; above b a by 4;");
        x.court();
        due("a third court", x.best(0, 0, false), 1);
        due("mended", x.mended(0, 9, 0), 0);
        x.seat(0, 0, 1);
        due("mended, seated", x.mended(0, 9, 0), 1);
        x.seat(0, 0, 0);
        due("mended, seated", x.mended(0, 9, -1), 0);
        due("mended within", x.mended(0, 3, -1), 1);
        x.sits(0, true);
        due("mended, sits", x.mended(0, 3, -1), -1);
        x.sits(0, false);
        due("mended, sits no more", x.mended(0, 3, -1), 1);
        x.leave(0);
        due("mended, left", x.mended(0, 3, -1), 0);
        x.rest(0, true);
        due("mended, rested", x.mended(0, 0, 0), 0);
    }
}
