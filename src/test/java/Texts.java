import java.util.ArrayList;
import java.util.List;
import java.util.Random;

/** Makes texts of courts, and spoils them. */
final class Texts {
    private static final String[] KEYS = {"guest", "mark", "is", "above", "even", "apart", "by", "in", "unless"};

    private Texts() {
    }

    private static String name(Random random, List<String> told) {
        while (true) {
            int letters = random.nextInt(6) == 0 ? 1 + random.nextInt(8) : 1 + random.nextInt(2);
            StringBuilder name = new StringBuilder();
            for (int k = 0; k < letters; k++) {
                name.append((char) ('a' + random.nextInt(26)));
            }
            String word = random.nextInt(20) == 0 ? KEYS[random.nextInt(9)] + "s" : name.toString();
            if (word.length() <= 8 && !told.contains(word) && !List.of(KEYS).contains(word)) {
                return word;
            }
        }
    }

    private static String of(Random random, List<String> names) {
        return names.get(random.nextInt(names.size()));
    }

    static String court(Random random, int mostGuests) {
        List<String> tokens = new ArrayList<>();
        List<String> all = new ArrayList<>();
        List<String> guests = new ArrayList<>();
        List<String> marks = new ArrayList<>();
        int guestCount = random.nextInt(3) == 0 ? 1 + random.nextInt(mostGuests) : mostGuests;
        int markCount = random.nextInt(6);
        int ruleCount = random.nextInt(3) == 0 ? random.nextInt(13) : 7 + random.nextInt(6);
        int early = random.nextInt(3) == 0 ? 1 + random.nextInt(guestCount) : guestCount;
        while (guests.size() < early) {
            addGuest(random, tokens, all, guests);
        }
        int rules = 0;
        boolean byName = random.nextBoolean();
        if (random.nextInt(4) == 0 && guests.size() > 1) {
            rules = addRing(random, tokens, guests);
        }
        while (guests.size() < guestCount || marks.size() < markCount || rules < ruleCount) {
            int which = random.nextInt(4);
            if (which == 0 && guests.size() < guestCount) {
                addGuest(random, tokens, all, guests);
            } else if (which == 1 && marks.size() < markCount) {
                addMark(random, tokens, all, guests, marks);
            } else if (which > 1 && rules < ruleCount) {
                addRule(random, tokens, all, byName ? List.of() : marks);
                rules++;
            }
        }
        return join(random, tokens);
    }

    /** Each above the next one, around. */
    private static int addRing(Random random, List<String> tokens, List<String> guests) {
        List<String> ring = new ArrayList<>(guests);
        java.util.Collections.shuffle(ring, random);
        int length = 2 + random.nextInt(ring.size() - 1);
        for (int k = 0; k < length; k++) {
            tokens.addAll(List.of("above", ring.get(k), ring.get((k + 1) % length), "by"));
            tokens.addAll(List.of("" + (1 + random.nextInt(9)), ";"));
        }
        return length;
    }

    private static void addGuest(Random random, List<String> tokens, List<String> all, List<String> guests) {
        String name = name(random, all);
        all.add(name);
        guests.add(name);
        tokens.addAll(List.of("guest", name, ";"));
    }

    private static void addMark(Random random, List<String> tokens, List<String> all, List<String> guests,
        List<String> marks) {
        String name = name(random, all);
        tokens.addAll(List.of("mark", name, "is"));
        List<String> members = new ArrayList<>();
        int wanted = 1 + random.nextInt(guests.size());
        while (members.size() < wanted) {
            String guest = of(random, guests);
            if (!members.contains(guest)) {
                members.add(guest);
            }
        }
        tokens.addAll(members);
        tokens.add(";");
        all.add(name);
        marks.add(name);
    }

    private static void addRule(Random random, List<String> tokens, List<String> all, List<String> marks) {
        int kind = random.nextInt(5);
        tokens.add(kind < 3 ? "above" : kind == 3 ? "even" : "apart");
        for (int k = 0; k < 2; k++) {
            tokens.add(!marks.isEmpty() && random.nextBoolean() ? of(random, marks) : of(random, all));
        }
        tokens.add("by");
        tokens.add((random.nextInt(15) == 0 ? "0" : "") + (1 + random.nextInt(9)));
        if (random.nextInt(4) == 0) {
            tokens.add("in");
            tokens.add((random.nextInt(15) == 0 ? "00" : "") + random.nextInt(4));
        }
        if (!marks.isEmpty() && random.nextInt(4) == 0) {
            tokens.add("unless");
            tokens.add(of(random, marks));
        }
        tokens.add(";");
    }

    private static boolean isLetter(char c) {
        return c >= 'a' && c <= 'z';
    }

    private static boolean isDigit(char c) {
        return c >= '0' && c <= '9';
    }

    /** Blanks only where two tokens would run together, or now and then. */
    private static String join(Random random, List<String> tokens) {
        StringBuilder text = new StringBuilder();
        for (String token : tokens) {
            if (text.length() > 0) {
                char last = text.charAt(text.length() - 1);
                char next = token.charAt(0);
                boolean together = isLetter(last) && isLetter(next) || isDigit(last) && isDigit(next);
                if (together || random.nextInt(8) == 0) {
                    text.append(random.nextInt(8) == 0 ? '\n' : ' ');
                }
            }
            text.append(token);
        }
        if (random.nextInt(4) == 0) {
            text.append(random.nextBoolean() ? " " : "\n");
        }
        return text.toString();
    }

    private static List<String> split(String text) {
        List<String> tokens = new ArrayList<>();
        java.util.regex.Matcher m = java.util.regex.Pattern.compile("[a-z]+|[0-9]+|;|[^a-z0-9; \n]").matcher(text);
        while (m.find()) {
            tokens.add(m.group());
        }
        return tokens;
    }

    static String spoil(Random random, String text) {
        StringBuilder spoilt = new StringBuilder(text);
        int at = random.nextInt(text.length());
        List<String> tokens = split(text);
        int one = random.nextInt(tokens.size());
        switch (random.nextInt(9)) {
            case 0:
                spoilt.setCharAt(at, (char) random.nextInt(256));
                return spoilt.toString();
            case 1:
                return spoilt.deleteCharAt(at).toString();
            case 2:
                return spoilt.insert(at, (char) (random.nextInt(3) == 0 ? random.nextInt(256) : 32 + random.nextInt(95)))
                    .toString();
            case 3:
                return text.substring(0, at);
            case 4:
                tokens.remove(one);
                break;
            case 5:
                tokens.add(one, of(random, tokens));
                break;
            case 6:
                tokens.set(one, of(random, tokens));
                break;
            case 7:
                tokens.set(one, random.nextBoolean() ? KEYS[random.nextInt(9)] : "" + random.nextInt(20));
                break;
            default:
                tokens.add(one, random.nextBoolean() ? KEYS[random.nextInt(9)] : "99999999999999999999999");
                break;
        }
        return tokens.isEmpty() ? "" : join(random, tokens);
    }
}
