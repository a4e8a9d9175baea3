/** What the tests share: counting of answers that are due, and the ways to put texts and ticks into an object. */
class Checks {
    static final int NONE = -1, UNKNOWN = -2, OUTSIDE = -3, NOT = -4, FULL = -5;
    static final int LEAST = Integer.MIN_VALUE, MOST = Integer.MAX_VALUE;
    static final int DRIVES = 6, TICKS = 40, VERSIONS = 4, STREETS = 4, LANDS = 2;
    static final String[] WORDS = {"time", "wheel", "turned", "height", "heat", "speed", "load", "soot"};
    private static int passed = 0;
    private static int failed = 0;

    static void due(String call, long got, long want) {
        holds(call + " answered " + got + ", due is " + want, got == want);
    }

    static void holds(String otherwise, boolean fits) {
        if (fits) {
            passed++;
        } else {
            failed++;
            System.out.println(otherwise);
        }
    }

    static void end(String name) {
        System.out.println(name + ": " + passed + " passed, " + failed + " failed");
        if (failed != 0) {
            System.exit(1);
        }
    }

    /** The text eight bytes at a time, so that an object stays far below its 512 calls. */
    static CleanStand written(CleanStand x, String text) {
        for (int at = 0; at < text.length(); at += 8) {
            int n = Math.min(8, text.length() - at);
            long bytes = 0;
            for (int i = 0; i < n; i++) {
                bytes |= (long) text.charAt(at + i) << 8 * i;
            }
            if (x.write(bytes, n) < n) {
                throw new IllegalStateException(text);
            }
        }
        return x;
    }

    static CleanStand programmed(CleanStand x, int version, String text) {
        if (written(x, text).program(version) < 1) {
            throw new IllegalStateException(text);
        }
        return x;
    }

    static CleanStand lawed(CleanStand x, int land, String text) {
        if (written(x, text).law(land) < 1) {
            throw new IllegalStateException(text);
        }
        return x;
    }

    /** A drive of one sort with the loads told, at speed 0. */
    static CleanStand loads(CleanStand x, int drive, int sort, int street, int... loads) {
        x.drive(drive, sort, street);
        for (int load : loads) {
            x.tick(drive, 0, load, 0, 0, 0);
        }
        return x;
    }
}
