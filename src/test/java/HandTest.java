/** Promises 10 to 18: who comes and is seated by hand, and the slights of it; answers by hand from the document. */
public final class HandTest {
    private static final int ROW = 0;
    private static final int TABLE = 1;
    private static final int RING = 2;
    private static final int DOOR = 3;
    private static final int TURN = 4;
    private static final Check CHECK = new Check();

    private HandTest() {
    }

    public static void main(String[] args) {
        comes();
        seat();
        leave();
        sits();
        higher();
        source();
        slightsOfAbove();
        slightsOfEven();
        slightsOfApart();
        slightsByCourses();
        slightsInTheirOrder();
        whatMayBeSaid();
        whoMinds();
        onlyWhoAreSeatedThere();
        CHECK.close("HandTest");
    }

    private static void due(String what, long got, long want) {
        CHECK.due(what, got, want);
    }

    private static void due(String what, boolean got, boolean want) {
        CHECK.due(what, got, want);
    }

    private static void comes() {
        FirstIn x = Check.court("guest a; guest b;");
        x.room(ROW, 3);
        due("comes already", x.comes(0, true), false);
        x.seat(0, 0, 2);
        x.sits(0, true);
        due("comes not", x.comes(0, false), true);
        due("again", x.comes(0, false), false);
        due("left its room", x.guest(0, 2), -1);
        due("left its place", x.guest(0, 3), -1);
        due("sits no more", x.guest(0, 4), 0);
        due("nobody sits", x.count(7), 0);
        due("one comes", x.count(5), 1);
        due("the place is free", x.seat(1, 0, 2), true);
        due("comes again", x.comes(0, true), true);
        due("not seated", x.guest(0, 3), -1);
        due("sits not", x.guest(0, 4), 0);
        due("guest 2", x.comes(2, false), false);
        due("guest -1", x.comes(-1, false), false);
        due("guest great", x.comes(Integer.MAX_VALUE, false), false);
        due("guest least", x.comes(Integer.MIN_VALUE, true), false);
    }

    private static void seat() {
        FirstIn x = Check.court("guest a; guest b; guest c;");
        x.room(ROW, 3);
        x.room(TABLE, 2);
        due("seated", x.seat(0, 0, 2), true);
        due("somebody has it", x.seat(1, 0, 2), false);
        due("so has it itself", x.seat(0, 0, 2), false);
        due("the same number elsewhere", x.seat(1, 1, 1), true);
        due("moves on", x.seat(0, 1, 0), true);
        due("room", x.guest(0, 2), 1);
        due("place", x.guest(0, 3), 0);
        due("where it was is free", x.seat(2, 0, 2), true);
        due("place 2 of 2", x.seat(2, 1, 2), false);
        due("place -1", x.seat(2, 1, -1), false);
        due("room 2", x.seat(2, 2, 0), false);
        due("room -1", x.seat(2, -1, -1), false);
        due("guest 3", x.seat(3, 0, 0), false);
        due("guest -1", x.seat(-1, 0, 0), false);
        due("great", x.seat(Integer.MAX_VALUE, Integer.MAX_VALUE, Integer.MAX_VALUE), false);
        due("refused changes nothing", x.guest(2, 3), 2);
        x.sits(2, true);
        due("it sits", x.seat(2, 0, 0), false);
        x.comes(1, false);
        due("comes not", x.seat(1, 0, 0), false);
        due("two are seated", x.count(6), 2);
    }

    private static void leave() {
        FirstIn x = Check.court("guest a; guest b;");
        x.room(ROW, 3);
        due("has none", x.leave(0), false);
        x.seat(0, 0, 1);
        x.sits(0, true);
        due("sits", x.leave(0), false);
        due("place stays", x.guest(0, 3), 1);
        x.sits(0, false);
        due("leaves", x.leave(0), true);
        due("again", x.leave(0), false);
        due("no room", x.guest(0, 2), -1);
        due("no place", x.guest(0, 3), -1);
        due("it is free", x.seat(1, 0, 1), true);
        due("still comes", x.guest(0, 0), 1);
        due("guest 2", x.leave(2), false);
        due("guest -1", x.leave(-1), false);
        due("guest least", x.leave(Integer.MIN_VALUE), false);
    }

    private static void sits() {
        FirstIn x = Check.court("guest a; guest b;");
        x.room(ROW, 3);
        due("not seated", x.sits(0, true), false);
        due("not seated, no more", x.sits(0, false), false);
        x.seat(0, 0, 1);
        due("no more, but it doesn't", x.sits(0, false), false);
        due("sits", x.sits(0, true), true);
        due("again", x.sits(0, true), false);
        due("one sits", x.count(7), 1);
        due("no more", x.sits(0, false), true);
        due("again no more", x.sits(0, false), false);
        due("guest 2", x.sits(2, true), false);
        due("guest -1", x.sits(-1, true), false);
        due("guest great", x.sits(Integer.MAX_VALUE, true), false);
    }

    private static void higher() {
        FirstIn x = new FirstIn();
        x.room(ROW, 10);
        x.room(TABLE, 9);
        x.room(DOOR, 5);
        x.room(TURN, 4);
        due("row", x.higher(0, 0, 3, 4), 1);
        due("row turned", x.higher(0, 9, 9, 0), 2);
        due("row the same", x.higher(0, 0, 9, 9), 0);
        due("table", x.higher(1, 0, 1, 2), 1);
        due("table turned", x.higher(1, 3, 8, 6), 2);
        due("table, alike", x.higher(1, 0, 6, 7), -1);
        due("table, the same", x.higher(1, 0, 6, 6), 0);
        due("door", x.higher(2, 0, 1, 2), 1);
        due("door turned", x.higher(2, 0, 4, 1), 2);
        due("door, at one height", x.higher(2, 0, 3, 2), 0);
        due("turn, course 0", x.higher(3, 0, 2, 3), 1);
        due("turn, course 1", x.higher(3, 1, 2, 3), 2);
        due("turn, course 1", x.higher(3, 1, 0, 3), 2);
        due("turn, course 4", x.higher(3, 4, 0, 3), 1);
        due("turn, course 9", x.higher(3, 9, 3, 0), 1);
        due("turn, the same", x.higher(3, 9, 3, 3), 0);
        due("course 10", x.higher(3, 10, 0, 1), -1);
        due("course -1", x.higher(0, -1, 0, 1), -1);
        due("course 10, the same", x.higher(0, 10, 1, 1), -1);
        due("place 4", x.higher(3, 0, 4, 0), -1);
        due("place 4 twice", x.higher(3, 0, 4, 4), -1);
        due("place -1", x.higher(3, 0, 0, -1), -1);
        due("place great", x.higher(3, 0, Integer.MAX_VALUE, 0), -1);
        due("room 4", x.higher(4, 0, 0, 0), -1);
        due("room -1", x.higher(-1, 0, 0, 0), -1);
        FirstIn ring = new FirstIn();
        ring.room(RING, 3);
        due("ring", ring.higher(0, 0, 0, 1), -1);
        due("ring, the same", ring.higher(0, 0, 1, 1), 0);
    }

    private static void source() {
        FirstIn x = Check.court("guest a; guest b; guest c; mark m is b c;"
            + "above a b by 3; above a m by 5 in 1; above a m by 5; above a c by 4 in 0; above m m by 1 unless m;"
            + "even a b by 9; above c a by 2;");
        x.room(ROW, 3);
        x.room(ROW, 3);
        due("the heaviest", x.source(0, 0, 1), 2);
        due("of like ones the least", x.source(1, 0, 1), 1);
        due("heavier than that of the room", x.source(0, 0, 2), 2);
        due("turned about", x.source(0, 2, 0), 6);
        due("not above", x.source(0, 1, 0), -1);
        due("no couple", x.source(0, 1, 2), -1);
        due("itself", x.source(0, 0, 0), -1);
        x.rest(2, true);
        due("rested", x.source(0, 0, 1), 0);
        due("by the room's", x.source(0, 0, 2), 3);
        x.comes(2, false);
        due("comes not", x.source(0, 0, 2), -1);
        due("comes not", x.source(0, 2, 0), -1);
        due("room 2", x.source(2, 0, 1), -1);
        due("room -1", x.source(-1, 0, 1), -1);
        due("guest 3", x.source(0, 3, 1), -1);
        due("guest -1", x.source(0, 0, -1), -1);
        due("guest great", x.source(0, Integer.MAX_VALUE, 1), -1);
        due("guest least", x.source(0, 1, Integer.MIN_VALUE), -1);
    }

    /** The weight of the slights of guests 0, 1, .. at these places in room 0. */
    private static int weight(String text, int kind, int places, int course, int... at) {
        FirstIn x = Check.court(text);
        x.room(kind, places);
        for (int guest = 0; guest < at.length; guest++) {
            x.seat(guest, 0, at[guest]);
        }
        return x.slights(0, course, 0);
    }

    private static void slightsOfAbove() {
        String text = "guest a; guest b; above a b by 6;";
        due("row, as it should be", weight(text, ROW, 3, 0, 0, 2), 0);
        due("row", weight(text, ROW, 3, 0, 2, 0), 6);
        due("table, alike", weight(text, TABLE, 4, 0, 1, 0), 0);
        due("table", weight(text, TABLE, 4, 0, 2, 1), 6);
        due("ring", weight(text, RING, 4, 0, 2, 1), 0);
        due("door at one height", weight(text, DOOR, 4, 0, 0, 1), 6);
        due("door, as it should be", weight(text, DOOR, 4, 0, 1, 2), 0);
        due("door", weight(text, DOOR, 4, 0, 2, 1), 6);
        String both = "guest a; guest b; mark m is a b; above m m by 4;";
        due("both ways at a door", weight(both, DOOR, 4, 0, 2, 3), 8);
        due("both ways at a table", weight(both, TABLE, 4, 0, 2, 3), 0);
        due("both ways in a row", weight(both, ROW, 4, 0, 2, 3), 4);
    }

    private static void slightsOfEven() {
        String text = "guest a; guest b; even b a by 6;";
        due("row", weight(text, ROW, 3, 0, 0, 2), 6);
        due("row turned", weight(text, ROW, 3, 0, 2, 0), 6);
        due("table, alike", weight(text, TABLE, 4, 0, 1, 0), 0);
        due("table", weight(text, TABLE, 4, 0, 2, 1), 6);
        due("ring", weight(text, RING, 4, 0, 2, 1), 0);
        due("door at one height", weight(text, DOOR, 4, 0, 0, 1), 0);
        due("door", weight(text, DOOR, 4, 0, 1, 2), 6);
    }

    private static void slightsOfApart() {
        String text = "guest a; guest b; apart a b by 6;";
        due("row beside", weight(text, ROW, 4, 0, 2, 1), 6);
        due("row by 2", weight(text, ROW, 4, 0, 2, 0), 0);
        due("row around", weight(text, ROW, 3, 0, 2, 0), 0);
        due("table by 1", weight(text, TABLE, 6, 0, 2, 1), 0);
        due("table by 2", weight(text, TABLE, 6, 0, 3, 5), 6);
        due("table opposite", weight(text, TABLE, 6, 0, 2, 3), 0);
        due("table by 4", weight(text, TABLE, 6, 0, 1, 5), 0);
        due("ring by 1", weight(text, RING, 5, 0, 2, 3), 6);
        due("ring around", weight(text, RING, 5, 0, 0, 4), 6);
        due("ring around turned", weight(text, RING, 5, 0, 4, 0), 6);
        due("ring by 2", weight(text, RING, 5, 0, 4, 2), 0);
        due("ring of 2", weight(text, RING, 2, 0, 1, 0), 6);
        due("door at one height", weight(text, DOOR, 4, 0, 3, 2), 6);
        due("door by 1", weight(text, DOOR, 4, 0, 1, 2), 0);
        due("door by 2", weight(text, DOOR, 4, 0, 0, 2), 0);
        due("turn by 1", weight(text, TURN, 4, 3, 1, 2), 6);
        due("turn around", weight(text, TURN, 4, 1, 0, 3), 0);
    }

    private static void slightsByCourses() {
        String text = "guest a; guest b; above a b by 6;";
        due("course 0", weight(text, TURN, 3, 0, 0, 2), 0);
        due("course 1: b comes to the head", weight(text, TURN, 3, 1, 0, 2), 6);
        due("course 2", weight(text, TURN, 3, 2, 0, 2), 6);
        due("course 3", weight(text, TURN, 3, 3, 0, 2), 0);
        due("course 9", weight(text, TURN, 3, 9, 0, 2), 0);
        due("a row has none", weight(text, ROW, 3, 1, 0, 2), 0);
        due("course 10", weight(text, TURN, 3, 10, 0, 2), -1);
        due("course -1", weight(text, TURN, 3, -1, 0, 2), -1);
    }

    private static FirstIn quarrel() {
        FirstIn x = Check.court("guest a; guest b; guest c; mark m is a b c;"
            + "even m m by 2; above m m by 5; above c a by 3; apart c b by 7; apart a b by 9 in 1;"
            + "above b c by 5; above a c by 4;");
        x.room(ROW, 3);
        x.room(ROW, 9);
        x.seat(0, 0, 0);
        x.seat(1, 0, 2);
        x.seat(2, 0, 1);
        return x;
    }

    private static void slight(FirstIn x, int k, int... want) {
        for (int what = 0; what < want.length; what++) {
            due("slight " + k + " what " + what, x.slight(0, 0, k, what), want[what]);
        }
    }

    /** a, c, b from the head on. */
    private static void slightsInTheirOrder() {
        FirstIn x = quarrel();
        slight(x, 0, 0, 0, 1, -1);
        slight(x, 1, 0, 0, 2, -1);
        slight(x, 2, 0, 1, 2, -1);
        slight(x, 3, 1, 1, 0, 1);
        slight(x, 4, 1, 1, 2, 1);
        slight(x, 5, 1, 2, 0, 1);
        slight(x, 6, 2, 2, 0, 1);
        slight(x, 7, 3, 1, 2, -1);
        slight(x, 8, 5, 1, 2, 1);
        slight(x, 9, -1, -1, -1, -1);
        due("weight", x.slights(0, 0, 0), 2 * 3 + 5 * 3 + 3 + 7 + 5);
        due("number", x.slights(0, 0, 1), 9);
        due("heaviest", x.slights(0, 0, 2), 7);
        due("what 3", x.slights(0, 0, 3), -1);
        due("what -1", x.slights(0, 0, -1), -1);
        due("room 2", x.slights(2, 0, 0), -1);
        due("room -1", x.slights(-1, 0, 0), -1);
        due("course 10", x.slights(0, 10, 0), -1);
        due("none: weight", x.slights(1, 0, 0), 0);
        due("none: number", x.slights(1, 0, 1), 0);
        due("none: heaviest", x.slights(1, 0, 2), 0);
        due("slight k -1", x.slight(0, 0, -1, 0), -1);
        due("slight k great", x.slight(0, 0, Integer.MAX_VALUE, 0), -1);
        due("slight what 4", x.slight(0, 0, 0, 4), -1);
        due("slight what -1", x.slight(0, 0, 0, -1), -1);
        due("slight room 2", x.slight(2, 0, 0, 0), -1);
        due("slight course 10", x.slight(0, 10, 0, 0), -1);
        due("slight of none", x.slight(1, 0, 0, 0), -1);
        due("slight of none, k NONE", x.slight(1, 0, -1, 0), -1);
    }

    private static void whatMayBeSaid() {
        FirstIn x = Check.court("guest a; guest b; above a b by 4; above b a by 2; above b a by 3 in 1;"
            + "above b a by 2; even a b by 1;");
        x.room(ROW, 2);
        x.room(ROW, 2);
        x.seat(0, 0, 1);
        x.seat(1, 0, 0);
        due("of like ones the least", x.slight(0, 0, 0, 3), 1);
        due("not of even", x.slight(0, 0, 1, 3), -1);
        x.rest(1, true);
        due("not one that rests", x.slight(0, 0, 0, 3), 3);
        x.rest(3, true);
        due("nothing", x.slight(0, 0, 0, 3), -1);
        x.rest(3, false);
        x.seat(0, 1, 1);
        x.seat(1, 1, 0);
        due("the heaviest in that room", x.slight(1, 0, 0, 3), 2);
    }

    private static void whoMinds() {
        FirstIn x = quarrel();
        // even: b below a, c below a, b below c; above: b twice, c; c above a; apart: b and c; b above c
        due("a", x.minds(0, 0, 0), 0);
        due("b", x.minds(0, 0, 1), 2 + 2 + 5 + 5 + 7 + 5);
        due("c", x.minds(0, 0, 2), 2 + 5 + 3 + 7);
        due("most", x.minds(0, 0, -1), 1);
        due("not seated there", x.minds(1, 0, 1), 0);
        due("nobody", x.minds(1, 0, -1), -1);
        due("guest 3", x.minds(0, 0, 3), -1);
        due("guest -2", x.minds(0, 0, -2), -1);
        due("guest great", x.minds(0, 0, Integer.MAX_VALUE), -1);
        due("course 10", x.minds(0, 10, 0), -1);
        due("course -1", x.minds(0, -1, -1), -1);
        due("room 2", x.minds(2, 0, 0), -1);
        x.comes(1, false);
        due("who comes not", x.minds(0, 0, 1), 0);
        FirstIn like = Check.court("guest a; guest b; guest c; apart c b by 4;");
        like.room(RING, 2);
        like.seat(1, 0, 0);
        like.seat(2, 0, 1);
        due("of like ones the least", like.minds(0, 0, -1), 1);
        FirstIn turn = Check.court("guest a; guest b; even a b by 4;");
        turn.room(TURN, 2);
        turn.seat(0, 0, 0);
        turn.seat(1, 0, 1);
        due("course 0: b", turn.minds(0, 0, 1), 4);
        due("course 0: a", turn.minds(0, 0, 0), 0);
        due("course 1: a", turn.minds(0, 1, 0), 4);
        due("course 1 most", turn.minds(0, 1, -1), 0);
    }

    private static void onlyWhoAreSeatedThere() {
        FirstIn x = Check.court("guest a; guest b; guest c; above a b by 4; above a c by 1 in 0; above a c by 2 in 1;");
        x.room(ROW, 3);
        x.room(ROW, 3);
        x.seat(0, 0, 2);
        x.seat(1, 1, 0);
        due("in another room", x.slights(0, 0, 1), 0);
        x.seat(2, 0, 0);
        due("a rule of this room", x.slights(0, 0, 0), 1);
        x.seat(2, 1, 1);
        x.seat(0, 1, 2);
        due("a rule of that room, and of every", x.slights(1, 0, 0), 6);
        due("nobody is left", x.slights(0, 0, 0), 0);
        x.leave(1);
        due("one left", x.slights(1, 0, 0), 2);
        x.comes(2, false);
        due("one comes no more", x.slights(1, 0, 0), 0);
    }
}
