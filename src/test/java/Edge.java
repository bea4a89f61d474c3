import java.util.Set;
import java.util.TreeSet;

/** What the tests of boundaries share: numbers beyond a range, and courts and texts up to the limits. */
final class Edge {
    static final int LEAST = Integer.MIN_VALUE;
    static final int GREATEST = Integer.MAX_VALUE;
    static final int NONE = FirstIn.NONE;

    static final int ROW = 0;
    static final int TABLE = 1;
    static final int RING = 2;
    static final int DOOR = 3;
    static final int TURN = 4;

    private Edge() {
    }

    /** One step beyond on each side, the far ends, and numbers that a shift or a cast would take for one within. */
    static int[] beyond(int low, int high) {
        Set<Integer> out = new TreeSet<>();
        for (int far : new int[] {LEAST, LEAST + 1, low - 1, low - 32, low - 256, high + 1, high + 32, high + 256,
            low + (1 << 16), GREATEST - 1, GREATEST}) {
            if (far < low || far > high) {
                out.add(far);
            }
        }
        return out.stream().mapToInt(Integer::intValue).toArray();
    }

    static String name(int guest) {
        return "" + (char) ('a' + guest);
    }

    /** The lines of so many guests: a, b, and so on. */
    static String guests(int number) {
        StringBuilder lines = new StringBuilder();
        for (int guest = 0; guest < number; guest++) {
            lines.append("guest ").append(name(guest)).append(';');
        }
        return lines.toString();
    }

    /** So many guests, and a mark m that all of them have. */
    static String marked(int number) {
        StringBuilder line = new StringBuilder(guests(number)).append("mark m is");
        for (int guest = 0; guest < number; guest++) {
            line.append(' ').append(name(guest));
        }
        return line.append(';').toString();
    }

    static FirstIn inRoom(String text, int kind, int places) {
        FirstIn x = Check.court(text);
        x.room(kind, places);
        return x;
    }

    /** Guests 0, 1, and so on are seated at these places of room 0; who is to have no place has NONE. */
    static FirstIn seated(String text, int kind, int places, int... at) {
        FirstIn x = inRoom(text, kind, places);
        for (int guest = 0; guest < at.length; guest++) {
            x.seat(guest, 0, at[guest]);
        }
        return x;
    }

    /** A text with blanks behind it, so many bytes in all. */
    static String padded(String text, int bytes) {
        return text + " ".repeat(bytes - text.length());
    }
}
