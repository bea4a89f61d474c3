import java.util.Arrays;
import java.util.Random;

/** Random runs of calls, each answer against the one of Oracle. Arguments: the first seed, how many runs. */
public final class OracleTest {
    private static final int CALLS_OF_A_RUN = 512;
    private static final int[] FAR = {Integer.MIN_VALUE, Integer.MIN_VALUE + 1, Integer.MAX_VALUE, Integer.MAX_VALUE - 1,
        -32, 31, 32, 100, 1 << 30};

    private final Check check;
    private final Random random;
    private final int seed;
    private final FirstIn x = new FirstIn();
    private final Oracle o = new Oracle();
    private final int mostGuests;
    private final int mostPlaces;
    private int calls = 0;
    private int favourite = 0;

    private OracleTest(Check check, int seed) {
        this.check = check;
        this.seed = seed;
        random = new Random(seed * 7919L + 13);
        boolean large = seed % 25 == 0;
        mostGuests = large ? 10 : 2 + random.nextInt(5);
        mostPlaces = large ? 10 : 2 + random.nextInt(5);
    }

    public static void main(String[] args) {
        int first = args.length > 0 ? Integer.parseInt(args[0]) : 1;
        int runs = args.length > 1 ? Integer.parseInt(args[1]) : 500;
        Check check = new Check();
        for (int seed = first; seed < first + runs && !check.anyWrong(); seed++) {
            new OracleTest(check, seed).run();
        }
        check.close("OracleTest");
    }

    private void run() {
        int courts = 1 + random.nextInt(3);
        for (int k = 0; k < courts; k++) {
            readTexts();
            furnish();
            int asks = 40 + random.nextInt(120);
            for (int i = 0; i < asks && calls < CALLS_OF_A_RUN; i++) {
                change();
                ask();
            }
        }
    }

    private void due(String name, int got, int want, int... args) {
        calls++;
        check.due("seed " + seed + " call " + calls + ": " + name + Arrays.toString(args), got, want);
    }

    private void due(String name, boolean got, boolean want, int... args) {
        due(name, got ? 1 : 0, want ? 1 : 0, args);
    }

    private void readTexts() {
        for (int tries = 0; tries < 4; tries++) {
            String text = Texts.court(random, mostGuests);
            if (tries < 3) {
                text = Texts.spoil(random, text);
            }
            if (text.length() > 700) {
                text = text.substring(0, 700);
            }
            due("end", x.end(0), o.end(0), 0);
            for (int[] f : Check.feeds(text)) {
                due("feed", x.feed(f[0], f[1], f[2], f[3], f[4]), o.feed(f), f);
            }
            int end = text.length();
            due("end", x.end(end), o.end(end), end);
            int fault = x.fault();
            due("fault of [" + text + "]", fault, o.fault());
            if (tries == 3 || random.nextInt(4) == 0) {
                due("court", x.court(), o.court());
                due("count", x.count(4), o.count(4), 4);
                tellCourt();
            }
        }
    }

    /** Rooms of every kind, and a room that most guests are seated in, so that there is much to ask for. */
    private void furnish() {
        while (random.nextInt(4) != 0) {
            int kind = random.nextInt(5);
            int places = Math.min(10, mostPlaces + random.nextInt(2));
            due("room", x.room(kind, places), o.room(kind, places), kind, places);
        }
        favourite = random.nextInt(Math.max(1, x.count(3)));
        for (int g = 0; g < x.count(0); g++) {
            int p = place();
            due("seat", x.seat(g, favourite, p), o.seat(g, favourite, p), g, favourite, p);
        }
    }

    private void tellCourt() {
        for (int what = -1; what < 10; what++) {
            due("count", x.count(what), o.count(what), what);
        }
        for (int k = 0; k < 13; k++) {
            int what = random.nextInt(10) - 1;
            due("rule", x.rule(k, what), o.rule(k, what), k, what);
            due("rule", x.rule(k, 6), o.rule(k, 6), k, 6);
        }
    }

    /** Mostly one that can be, now and then just beside. */
    private int any(int below) {
        switch (random.nextInt(24)) {
            case 0:
                return random.nextInt(below + 3) - 2;
            case 1:
                return random.nextInt(2) == 0 ? below : -1;
            case 2:
                return FAR[random.nextInt(FAR.length)];
            default:
                return random.nextInt(Math.max(1, below));
        }
    }

    private int guest() {
        return any(Math.min(10, Math.max(1, x.count(0))));
    }

    private int room() {
        return random.nextInt(3) == 0 ? any(4) : favourite;
    }

    private int place() {
        return any(mostPlaces);
    }

    private int course() {
        return random.nextInt(3) == 0 ? 0 : any(10);
    }

    private void change() {
        int g = guest();
        boolean yes = random.nextInt(5) != 0;
        switch (random.nextInt(12)) {
            case 0: {
                int kind = any(5);
                int places = random.nextInt(8) == 0 ? random.nextInt(13) - 1 : 1 + random.nextInt(mostPlaces);
                due("room", x.room(kind, places), o.room(kind, places), kind, places);
                break;
            }
            case 1: {
                int k = any(12);
                due("rest", x.rest(k, !yes), o.rest(k, !yes), k);
                break;
            }
            case 2:
                due("comes", x.comes(g, yes), o.comes(g, yes), g);
                break;
            case 3:
            case 4:
            case 5:
            case 6: {
                int r = room();
                int p = place();
                due("seat", x.seat(g, r, p), o.seat(g, r, p), g, r, p);
                break;
            }
            case 7:
                due("leave", x.leave(g), o.leave(g), g);
                break;
            case 8:
                due("sits", x.sits(g, yes), o.sits(g, yes), g);
                break;
            default:
                break;
        }
    }

    private void ask() {
        int r = room();
        int c = course();
        int g = random.nextInt(4) == 0 ? -1 : guest();
        int h = guest();
        int what = any(4);
        int k = any(5);
        switch (random.nextInt(24)) {
            case 0:
                due("guest", x.guest(h, what + 1), o.guest(h, what + 1), h, what + 1);
                break;
            case 1: {
                int p = place();
                int q = place();
                due("higher", x.higher(r, c, p, q), o.higher(r, c, p, q), r, c, p, q);
                break;
            }
            case 2:
                due("source", x.source(r, g, h), o.source(r, g, h), r, g, h);
                break;
            case 3:
            case 4:
                due("slights", x.slights(r, c, what), o.slights(r, c, what), r, c, what);
                break;
            case 5:
            case 6:
                due("slight", x.slight(r, c, k, what), o.slight(r, c, k, what), r, c, k, what);
                break;
            case 7:
            case 8:
                due("minds", x.minds(r, c, g), o.minds(r, c, g), r, c, g);
                break;
            case 9:
                k = any(6) - 1;
                due("ring", x.ring(r, k), o.ring(r, k), r, k);
                break;
            case 10:
                due("quarrels", x.quarrels(r), o.quarrels(r), r);
                break;
            case 11:
                due("toRest", x.toRest(r, what / 2), o.toRest(r, what / 2), r, what / 2);
                break;
            case 12:
                k = any(10);
                due("order", x.order(r, k), o.order(r, k), r, k);
                break;
            case 13:
                due("rounds", x.rounds(r, k), o.rounds(r, k), r, k);
                break;
            case 14:
            case 15:
                due("few", x.few(r, g), o.few(r, g), r, g);
                break;
            case 16:
                due("least", x.least(r, what), o.least(r, what), r, what);
                break;
            case 17:
                due("best", x.best(r, h, what < 2), o.best(r, h, what < 2), r, h, what);
                break;
            case 18:
                due("must", x.must(r, h), o.must(r, h), r, h);
                break;
            case 19:
                k = place();
                due("free", x.free(r, k), o.free(r, k), r, k);
                break;
            case 20:
            case 21:
                k = random.nextInt(10) == 0 ? random.nextInt() : random.nextInt(60) - 1;
                due("mended", x.mended(r, k, g), o.mended(r, k, g), r, k, g);
                break;
            case 22:
                k = any(5) - 1;
                due("evened", x.evened(r, what, k), o.evened(r, what, k), r, what, k);
                break;
            default:
                what = any(9);
                due("count", x.count(what), o.count(what), what);
                break;
        }
    }
}
