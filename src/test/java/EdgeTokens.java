import java.util.Set;

/** Each token at each place of each line: those that the document lets stand there, and no others. */
final class EdgeTokens {
    private static final String[] ALL = {"guest", "mark", "is", "above", "even", "apart", "by", "in", "unless", "a", "b", "m",
        "q", "abcdefghi", "0", "1", "3", "4", "9", "10", ";", "?", "A"};
    private static final Set<String> LINES = Set.of("guest", "mark", "above", "even", "apart");
    private static final Set<String> SOME = Set.of("a", "b", "m");
    private static final String HEAD = "guest a; guest b; mark m is a;";

    private EdgeTokens() {
    }

    static void eachTokenAtEachPlace(Check check) {
        check.sentence("Terms 1: LINES; the FAULT is at the first TOKEN that can't stand there");
        mayStand(check, "", LINES);
        mayStand(check, HEAD, LINES);
        mayStand(check, HEAD + "guest", Set.of("q"));
        mayStand(check, HEAD + "guest q", Set.of(";"));
        mayStand(check, HEAD + "guest q;", LINES);
        mayStand(check, HEAD + "mark", Set.of("q"));
        mayStand(check, HEAD + "mark q", Set.of("is"));
        mayStand(check, HEAD + "mark q is", Set.of("a", "b"));
        mayStand(check, HEAD + "mark q is a", Set.of("b", ";"));
        mayStand(check, HEAD + "mark q is a b", Set.of(";"));
        mayStand(check, HEAD + "mark q is a b;", LINES);
        for (String kind : new String[] {"above", "even", "apart"}) {
            for (String one : SOME) {
                ofARule(check, HEAD + kind, one);
            }
        }
        atTheLimits(check);
    }

    private static void ofARule(Check check, String head, String one) {
        mayStand(check, head, SOME);
        mayStand(check, head + " " + one, SOME);
        mayStand(check, head + " " + one + " b", Set.of("by"));
        String by = head + " " + one + " b by";
        mayStand(check, by, Set.of("1", "3", "4", "9"));
        mayStand(check, by + " 1", Set.of("in", "unless", ";"));
        mayStand(check, by + " 9 in", Set.of("0", "1", "3"));
        mayStand(check, by + " 9 in 3", Set.of("unless", ";"));
        mayStand(check, by + " 9 in 3 unless", Set.of("m"));
        mayStand(check, by + " 9 unless", Set.of("m"));
        mayStand(check, by + " 9 unless m", Set.of(";"));
        mayStand(check, by + " 9 in 0 unless m", Set.of(";"));
        mayStand(check, by + " 9 in 0 unless m;", LINES);
    }

    private static void atTheLimits(Check check) {
        mayStand(check, HEAD + "guest c;guest d;guest e;guest f;guest g;guest h;guest i;", LINES);
        mayStand(check, HEAD + "guest c;guest d;guest e;guest f;guest g;guest h;guest i;guest j;",
            Set.of("mark", "above", "even", "apart"));
        mayStand(check, HEAD + "mark n is b;mark o is b;mark p is b;", LINES);
        mayStand(check, HEAD + "mark n is b;mark o is b;mark p is b;mark r is b;", Set.of("guest", "above", "even", "apart"));
        mayStand(check, HEAD + "even a b by 1;".repeat(11), LINES);
        mayStand(check, HEAD + "even a b by 1;".repeat(12), Set.of("guest", "mark"));
    }

    private static void mayStand(Check check, String head, Set<String> which) {
        for (String token : ALL) {
            String text = head + " " + token;
            FirstIn x = new FirstIn();
            Check.feed(x, text);
            int at = head.length() + 1;
            boolean whole = token.equals(";");
            int want = !which.contains(token) ? at : whole ? FirstIn.NONE : text.length();
            check.due("fault of <" + text + ">", x.fault(), want);
        }
    }
}
