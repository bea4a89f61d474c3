import java.util.ArrayList;
import java.util.List;
import java.util.function.Supplier;
import java.util.function.ToIntFunction;

/**
 * 'What is refused changes nothing' holds for every promise: each call that is refused is made on an object of its own,
 * and all answers behind it are held against those of a like object without that call. And: an object is used for 512
 * calls, the last of which answers as the first.
 */
public final class EdgeRefusedTest {
    private static final int MOST_CALLS = 512;
    private static final Check CHECK = new Check();

    /** A call that is refused, as text and as what to do; false counts 0. */
    private record Refused(String what, int answer, ToIntFunction<FirstIn> call) {
    }

    private EdgeRefusedTest() {
    }

    public static void main(String[] args) {
        refusedChangesNothing();
        refusedWhereAllIsFull();
        refusedOfANewObject();
        askedChangesNothing();
        theLastCallAnswers();
        theLastCallOfEachKind();
        CHECK.close("EdgeRefusedTest");
    }

    private static void due(String what, long got, long want) {
        CHECK.due(what, got, want);
    }

    private static final String COURT = "guest a;guest b;guest c;guest d;mark m is a b;above a b by 4;above b a by 3 in 0;"
        + "even c d by 2;apart a c by 1;above m c by 5 unless m;above c a by 2 in 2;";

    /** Three rooms, some who are seated, one who sits, one who comes not, a rule that rests, a text that waits. */
    private static FirstIn some() {
        FirstIn x = Check.court(COURT);
        x.room(Edge.ROW, 4);
        x.room(Edge.DOOR, 5);
        x.room(Edge.TURN, 3);
        x.seat(0, 0, 1);
        x.seat(1, 0, 0);
        x.sits(1, true);
        x.seat(2, 2, 2);
        x.comes(3, false);
        x.rest(3, true);
        Check.feed(x, "guest z;guest y");
        return x;
    }

    /** As many of all as there can be; the text is a court of one guest. */
    private static FirstIn full() {
        FirstIn x = Check.court(Edge.marked(10) + "mark v is a;mark w is b;mark y is c;mark z is d;"
            + "even a b by 1;".repeat(12));
        for (int kind = 0; kind < 4; kind++) {
            x.room(kind + 1, 10);
        }
        for (int guest = 0; guest < 10; guest++) {
            x.seat(guest, 1, guest);
        }
        x.sits(9, true);
        Check.feed(x, Edge.padded("guest z;", 700));
        return x;
    }

    private static int bit(boolean answer) {
        return answer ? 1 : 0;
    }

    private static void add(List<Refused> all, String what, int answer, ToIntFunction<FirstIn> call) {
        all.add(new Refused(what, answer, call));
    }

    private static List<Refused> changes(int guests, int rules, int rooms, int places) {
        List<Refused> all = new ArrayList<>();
        for (int guest : Edge.beyond(0, guests - 1)) {
            add(all, "comes " + guest, 0, x -> bit(x.comes(guest, false)));
            add(all, "comes again " + guest, 0, x -> bit(x.comes(guest, true)));
            add(all, "seat " + guest, 0, x -> bit(x.seat(guest, 0, places - 1)));
            add(all, "leave " + guest, 0, x -> bit(x.leave(guest)));
            add(all, "sits " + guest, 0, x -> bit(x.sits(guest, true)));
            add(all, "sits no more " + guest, 0, x -> bit(x.sits(guest, false)));
        }
        for (int rule : Edge.beyond(0, rules - 1)) {
            add(all, "rest " + rule, 0, x -> bit(x.rest(rule, true)));
            add(all, "rest no more " + rule, 0, x -> bit(x.rest(rule, false)));
        }
        for (int room : Edge.beyond(0, rooms - 1)) {
            add(all, "seat in room " + room, 0, x -> bit(x.seat(0, room, 0)));
        }
        for (int place : Edge.beyond(0, places - 1)) {
            add(all, "seat at " + place, 0, x -> bit(x.seat(0, 0, place)));
        }
        for (int kind : Edge.beyond(0, 4)) {
            add(all, "room of kind " + kind, -1, x -> x.room(kind, 3));
        }
        for (int number : Edge.beyond(1, 10)) {
            add(all, "room of " + number, -1, x -> x.room(0, number));
        }
        return all;
    }

    private static List<Refused> ofSome() {
        List<Refused> all = changes(4, 6, 3, 4);
        for (int bytes : Edge.beyond(0, 15)) {
            add(all, "end " + bytes, 0, x -> bit(x.end(bytes)));
        }
        add(all, "court with a fault", -1, FirstIn::court);
        add(all, "rests already", 0, x -> bit(x.rest(3, true)));
        add(all, "rests no more already", 0, x -> bit(x.rest(0, false)));
        add(all, "comes already", 0, x -> bit(x.comes(0, true)));
        add(all, "sitting, comes already", 0, x -> bit(x.comes(1, true)));
        add(all, "comes not already", 0, x -> bit(x.comes(3, false)));
        add(all, "seat of who comes not", 0, x -> bit(x.seat(3, 0, 2)));
        add(all, "seat of who sits", 0, x -> bit(x.seat(1, 0, 2)));
        add(all, "seat somebody has", 0, x -> bit(x.seat(2, 0, 1)));
        add(all, "seat who sits has", 0, x -> bit(x.seat(2, 0, 0)));
        add(all, "its own seat", 0, x -> bit(x.seat(0, 0, 1)));
        add(all, "leave of who sits", 0, x -> bit(x.leave(1)));
        add(all, "leave of who comes not", 0, x -> bit(x.leave(3)));
        add(all, "sits already", 0, x -> bit(x.sits(1, true)));
        add(all, "sits no more already", 0, x -> bit(x.sits(0, false)));
        add(all, "sits who comes not", 0, x -> bit(x.sits(3, true)));
        return all;
    }

    private static List<Refused> ofFull() {
        List<Refused> all = changes(10, 12, 4, 10);
        for (int bytes : Edge.beyond(0, 700)) {
            add(all, "end " + bytes, 0, x -> bit(x.end(bytes)));
        }
        for (int kind = 0; kind <= 4; kind++) {
            int of = kind;
            add(all, "a fifth room", -1, x -> x.room(of, 1));
        }
        add(all, "feed", -1, x -> x.feed(0, -1, Edge.LEAST, Edge.GREATEST, 0x3b3b3b3b));
        add(all, "seat somebody has", 0, x -> bit(x.seat(0, 1, 9)));
        add(all, "seat of who sits", 0, x -> bit(x.seat(9, 0, 0)));
        return all;
    }

    /** What all calls that ask for something answer, of the rooms that have the right size too. */
    private static void ask(FirstIn x, List<Integer> answers, int guests, int room) {
        for (int what = 0; what <= 8; what++) {
            answers.add(x.count(what));
        }
        answers.add(x.fault());
        for (int guest = 0; guest < guests; guest++) {
            for (int what = 0; what <= 4; what++) {
                answers.add(x.guest(guest, what));
            }
            answers.add(x.minds(room, 0, guest));
            answers.add(x.few(room, guest));
            answers.add(x.order(room, guest));
            answers.add(x.best(room, guest, false));
            answers.add(x.best(room, guest, true));
            answers.add(x.must(room, guest));
            answers.add(x.mended(room, 3, guest));
            answers.add(x.source(room, guest, 0));
        }
        for (int what = 0; what <= 3; what++) {
            answers.add(x.slights(room, 0, what));
            answers.add(x.slight(room, 0, 0, what));
            answers.add(x.least(room, what));
            answers.add(x.free(room, what));
            answers.add(x.toRest(room, what));
            answers.add(x.rounds(room, what));
            answers.add(x.ring(room, what - 1));
            answers.add(x.evened(2, 2, what - 1));
        }
        answers.add(x.quarrels(room));
        answers.add(x.few(room, -1));
        answers.add(x.minds(room, 0, -1));
        answers.add(x.mended(room, 3, -1));
    }

    /** And what calls that change something answer behind all that. */
    private static void goOn(FirstIn x, List<Integer> answers) {
        for (int rule = 0; rule < 6; rule++) {
            answers.add(x.rule(rule, 7));
            answers.add(bit(x.rest(rule, true)));
        }
        answers.add(x.room(Edge.ROW, 4));
        answers.add(bit(x.seat(0, 3, 3)));
        answers.add(bit(x.sits(0, true)));
        answers.add(bit(x.leave(1)));
        answers.add(bit(x.comes(2, false)));
        answers.add(bit(x.comes(3, true)));
        answers.add(x.count(6));
        answers.add(x.count(7));
        answers.add(x.feed(0x3b202020, 0x20202020, 0x20202020, 0x20202020, 0x20202020));
        answers.add(x.fault());
        answers.add(x.court());
        answers.add(x.count(0));
        answers.add(x.count(4));
    }

    private static List<Integer> answers(FirstIn x, int guests, int room) {
        List<Integer> answers = new ArrayList<>();
        ask(x, answers, guests, room);
        goOn(x, answers);
        return answers;
    }

    private static void changesNothing(Supplier<FirstIn> made, List<Refused> calls, int guests, int room) {
        List<Integer> want = answers(made.get(), guests, room);
        for (Refused refused : calls) {
            FirstIn x = made.get();
            due(refused.what(), refused.call().applyAsInt(x), refused.answer());
            List<Integer> got = answers(x, guests, room);
            due(refused.what() + " changes nothing", bit(got.equals(want)), 1);
            // What was found out ahead of it stands behind it.
            FirstIn asked = made.get();
            List<Integer> ahead = new ArrayList<>();
            ask(asked, ahead, guests, room);
            due(refused.what() + ", asked", refused.call().applyAsInt(asked), refused.answer());
            List<Integer> behind = new ArrayList<>();
            ask(asked, behind, guests, room);
            due(refused.what() + " changes nothing that was asked", bit(ahead.equals(behind)), 1);
        }
    }

    private static void refusedChangesNothing() {
        CHECK.sentence("Terms 4: What is refused changes nothing");
        for (int room = 0; room < 3; room++) {
            changesNothing(EdgeRefusedTest::some, ofSome(), 4, room);
        }
    }

    private static void refusedWhereAllIsFull() {
        CHECK.sentence("Terms 4: What is refused changes nothing, where nothing more can come");
        changesNothing(EdgeRefusedTest::full, ofFull(), 10, 1);
    }

    private static void refusedOfANewObject() {
        CHECK.sentence("Terms 4: What is refused changes nothing, of a new object");
        List<Refused> all = changes(0, 0, 0, 1);
        for (int bytes : Edge.beyond(0, 0)) {
            add(all, "end " + bytes, 0, x -> bit(x.end(bytes)));
        }
        add(all, "court", -1, FirstIn::court);
        changesNothing(FirstIn::new, all, 1, 0);
    }

    private static void askedChangesNothing() {
        CHECK.sentence("Terms 4: What is asked in vain changes nothing");
        List<Refused> all = new ArrayList<>();
        for (int far : Edge.beyond(-1, 9)) {
            add(all, "guest", -1, x -> x.guest(far, far));
            add(all, "rule", -1, x -> x.rule(far + 3, far));
            add(all, "higher", -1, x -> x.higher(0, far, far, far));
            add(all, "source", -1, x -> x.source(0, far, far));
            add(all, "slights", -1, x -> x.slights(0, 0, far));
            add(all, "slight", -1, x -> x.slight(0, 0, far, 0));
            add(all, "minds", -1, x -> x.minds(0, 0, far));
            add(all, "ring", -1, x -> x.ring(0, far));
            add(all, "quarrels", -1, x -> x.quarrels(far));
            add(all, "toRest", -1, x -> x.toRest(0, far));
            add(all, "order", -1, x -> x.order(1, far));
            add(all, "rounds", -1, x -> x.rounds(1, far));
            add(all, "few", -1, x -> x.few(0, far));
            add(all, "least", -1, x -> x.least(0, far));
            add(all, "best", -1, x -> x.best(0, far, true));
            add(all, "must", -1, x -> x.must(0, far));
            add(all, "free", -1, x -> x.free(0, far));
            add(all, "mended", -1, x -> x.mended(0, -1, -1));
            add(all, "mended of none", -1, x -> x.mended(0, 9, far));
            add(all, "evened", -1, x -> x.evened(2, far, 0));
            add(all, "evened, course", -1, x -> x.evened(2, 3, far));
            add(all, "count", -1, x -> x.count(far));
        }
        changesNothing(EdgeRefusedTest::some, all, 4, 0);
    }

    /** So many calls, which change and ask by turns; what they answer is as it was at the beginning. */
    private static void theLastCallAnswers() {
        CHECK.sentence("An object is used for at most 512 calls");
        FirstIn x = new FirstIn();
        int calls = 0;
        while (calls + 8 <= MOST_CALLS) {
            due("feed at " + calls, x.feed(0x67756573, 0x7420613b, 0x67756573, 0x7420623b, 0x20202020), 20);
            due("fault", x.fault(), -1);
            due("court", x.court(), 2);
            due("room", x.room(Edge.ROW, 2), calls < 32 ? calls / 8 : -1);
            due("seat", bit(x.seat(1, 0, 0)), 1);
            due("mended", x.mended(0, 0, 0), 1);
            due("comes", bit(x.comes(0, false)), 1);
            due("least", x.least(0, 1), 2);
            calls += 8;
        }
        due("calls", calls, MOST_CALLS);
    }

    private static void times(String what, FirstIn x, int made, int[] want, List<ToIntFunction<FirstIn>> calls) {
        for (int call = made; call < MOST_CALLS; call++) {
            int k = (call - made) % calls.size();
            due(what + " at call " + call, calls.get(k).applyAsInt(x), want[k]);
        }
    }

    private static int[] want(int... answers) {
        return answers;
    }

    private static void theLastCallOfEachKind() {
        CHECK.sentence("An object is used for at most 512 calls: one kind of them all the time");
        times("feed and end", new FirstIn(), 0, want(20, 40, 1, 0), List.of(x -> x.feed(0, 1, 2, 3, 4),
            x -> x.feed(0, 1, 2, 3, 4), x -> bit(x.end(0)), x -> bit(x.end(1))));
        times("fault", new FirstIn(), 0, want(0, -1), List.of(FirstIn::fault, FirstIn::court));
        times("rest", some(), 30, want(1, 0, 1, 0), List.of(x -> bit(x.rest(0, true)), x -> bit(x.rest(0, true)),
            x -> bit(x.rest(0, false)), x -> bit(x.rest(0, false))));
        times("comes", some(), 30, want(1, 2, 1, 3), List.of(x -> bit(x.comes(0, false)), x -> x.count(5),
            x -> bit(x.comes(0, true)), x -> x.count(5)));
        times("seat", some(), 30, want(1, 1, 0, 1, 1), List.of(x -> bit(x.seat(0, 0, 2)), x -> bit(x.seat(0, 1, 4)),
            x -> bit(x.seat(0, 1, 5)), x -> bit(x.leave(0)), x -> bit(x.seat(0, 0, 1))));
        times("sits", some(), 30, want(1, 2, 1, 1), List.of(x -> bit(x.sits(0, true)), x -> x.count(7),
            x -> bit(x.sits(0, false)), x -> x.count(7)));
        times("what is found", some(), 30, want(2, 3, 3, 1, 0, 0, 1), List.of(x -> x.toRest(0, 0), x -> x.least(0, 0),
            x -> x.least(0, 2), x -> bit(x.rest(1, true)), x -> x.toRest(0, 0), x -> x.least(0, 0), x -> bit(x.rest(1, false))));
        times("mending", some(), 30, want(-1, 0, 1, 1, 1), List.of(x -> x.mended(0, 3, -1), x -> x.mended(0, 9, -1),
            x -> bit(x.sits(1, false)), x -> x.mended(0, 3, -1), x -> bit(x.sits(1, true))));
        times("rank", some(), 30, want(2, 1, -1, -1, 2, 2), List.of(x -> x.ring(0, -1), x -> x.quarrels(0), x -> x.order(0, 0),
            x -> x.rounds(0, 4), x -> x.few(0, -1), x -> x.few(0, -1)));
        times("evening", some(), 30, want(0, 0, -1), List.of(x -> x.evened(2, 3, -1), x -> x.evened(2, 3, 2),
            x -> x.evened(0, 3, 2)));
    }
}
