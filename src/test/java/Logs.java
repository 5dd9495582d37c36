import java.util.Arrays;

/** Logs drawn as texts, for tests: the top row first, a digit or letter a square's weight (a is 10), '.' none. */
final class Logs {
    private Logs() {
    }

    static LogsAfloat drawn(int water, String... rows) {
        LogsAfloat log = new LogsAfloat();
        log.water(water);
        log.log(rows[0].length(), rows.length);
        for (int i = 0; i < rows.length; i++) {
            for (int x = 0; x < rows[i].length(); x++) {
                char c = rows[i].charAt(x);
                if (c != '.') {
                    log.square(x, rows.length - 1 - i, Character.digit(c, 36));
                }
            }
        }
        return log;
    }

    /** Squares alike in all w by h places. */
    static LogsAfloat solid(int water, int w, int h, int weight) {
        String[] rows = new String[h];
        Arrays.fill(rows, String.valueOf(Character.forDigit(weight, 36)).repeat(w));
        return drawn(water, rows);
    }

    /** A boat of weight 7 whose left side is lower than the right one: above 2 the water comes over it. */
    static LogsAfloat boat() {
        return drawn(10, "...1", "1..1", "1111");
    }
}
