/** What the tests share: answers that are due, exceptions that are due, and all that an object tells. */
final class Check {
    /** A call of the class under test. */
    interface Call {
        long answer();
    }

    private static final Class<?> RANGE = IllegalArgumentException.class;
    private static final Class<?> STATE = IllegalStateException.class;
    private static final Class<?> INDEX = IndexOutOfBoundsException.class;
    private static int wrong;

    private Check() {
    }

    static void due(String call, long got, long want) {
        if (got != want) {
            wrong++;
            System.out.println(call + " answered " + got + ", due is " + want);
        }
    }

    static void due(String call, boolean got, boolean want) {
        due(call, got ? 1 : 0, want ? 1 : 0);
    }

    static void same(String call, String got, String want) {
        if (!got.equals(want)) {
            wrong++;
            System.out.println(call + " left\n" + got + "\ndue is\n" + want);
        }
    }

    static void outOfRange(TesseraeRow row, String call, Call made) {
        thrown(row, call, RANGE, made);
    }

    static void notNow(TesseraeRow row, String call, Call made) {
        thrown(row, call, STATE, made);
    }

    static void noSuch(TesseraeRow row, String call, Call made) {
        thrown(row, call, INDEX, made);
    }

    /** The exception has to be of the very class: what the machine throws is often of a class below it. */
    private static void thrown(TesseraeRow row, String call, Class<?> kind, Call made) {
        String before = state(row);
        String answer;
        try {
            answer = "answered " + made.answer();
        } catch (RuntimeException thrown) {
            answer = "threw " + thrown.getClass().getName();
        }
        if (!answer.equals("threw " + kind.getName())) {
            wrong++;
            System.out.println(call + " " + answer + ", due is " + kind.getName());
        }
        same(call + ", which throws,", state(row), before);
    }

    /** All that an object tells, but for what aimAnew and edge find anew. */
    static String state(TesseraeRow row) {
        StringBuilder text = new StringBuilder("hour ").append(row.hour()).append('\n');
        for (int lot = 0; has(row, 'l', lot, 0, 0); lot++) {
            text.append("lot ").append(lot);
            for (int what = 0; what <= 4; what++) {
                text.append(' ').append(row.ofLot(lot, what));
            }
            text.append('\n');
        }
        for (int crew = 0; crew < 3; crew++) {
            text.append("crew ").append(crew);
            for (int what = 0; what <= 3; what++) {
                text.append(' ').append(row.ofCrew(crew, what));
            }
            text.append('\n');
        }
        for (int picture = 0; has(row, 'p', picture, 0, 0); picture++) {
            text.append("picture ").append(picture).append('\n');
            appendCells(text, row, picture);
        }
        return text.toString();
    }

    private static void appendCells(StringBuilder text, TesseraeRow row, int picture) {
        for (int y = 0; has(row, 'p', picture, 0, y); y++) {
            for (int x = 0; has(row, 'p', picture, x, y); x++) {
                for (int what = 0; what <= 4; what++) {
                    text.append(what == 0 ? ' ' : ',').append(row.ofCell(picture, x, y, what));
                }
            }
            text.append('\n');
        }
    }

    /** What ofCell tells of each cell of a picture: a blank between cells, a slash between rows. */
    static String cells(TesseraeRow row, int picture, int what) {
        StringBuilder text = new StringBuilder();
        for (int y = 0; has(row, 'p', picture, 0, y); y++) {
            text.append(y == 0 ? "" : " /");
            for (int x = 0; has(row, 'p', picture, x, y); x++) {
                text.append(x == 0 && y == 0 ? "" : " ").append(row.ofCell(picture, x, y, what));
            }
        }
        return text.toString();
    }

    private static boolean has(TesseraeRow row, char kind, int number, int x, int y) {
        try {
            if (kind == 'l') {
                row.ofLot(number, 0);
            } else {
                row.ofCell(number, x, y, 0);
            }
            return true;
        } catch (IndexOutOfBoundsException none) {
            return false;
        }
    }

    static int bits(float value) {
        return Float.floatToIntBits(value);
    }

    /** Numbers for long runs, the same ones each time. */
    static final class Numbers {
        private long seed;

        Numbers(long seed) {
            this.seed = seed * 0x9E3779B97F4A7C15L + 0x1234567;
        }

        /** From least to most. */
        int from(int least, int most) {
            seed = seed * 6364136223846793005L + 1442695040888963407L;
            return least + (int) ((seed >>> 33) % (most - least + 1));
        }
    }

    static void end(String what) {
        if (wrong > 0) {
            System.out.println(what + ": " + wrong + " wrong");
            System.exit(1);
        }
        System.out.println(what + ": as due");
    }
}
