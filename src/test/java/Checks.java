/** What the tests share: each wrong answer is printed, and finish ends with exit code 1 if there was one. */
final class Checks {
    interface Call {
        Object answer();
    }

    private static int checked = 0;
    private static int wrong = 0;

    private Checks() {
    }

    static void due(String what, Object got, Object want) {
        checked++;
        if (!want.equals(got)) {
            wrong++;
            System.out.println(what + ": answered " + got + ", due is " + want);
        }
    }

    static void refused(String what, Class<? extends RuntimeException> want, Call call) {
        Object got;
        try {
            got = call.answer();
        } catch (RuntimeException e) {
            got = e.getClass();
        }
        due(what, got, want);
    }

    static int typeAll(PaperStorm storm, String text) {
        int length = 0;
        for (int index = 0; index < text.length(); index++) {
            length = storm.type(text.charAt(index));
        }
        return length;
    }

    static int run(PaperStorm storm, String text) {
        typeAll(storm, text);
        return storm.execute();
    }

    static String lineOf(PaperStorm storm, int length) {
        StringBuilder line = new StringBuilder();
        for (int index = 0; index < length; index++) {
            line.append(storm.lineAt(index));
        }
        return line.toString();
    }

    static void fill(PaperStorm storm, int[][] pressures) {
        for (int row = 0; row < 5; row++) {
            for (int column = 0; column < 5; column++) {
                storm.setPressure(row, column, pressures[row][column]);
            }
        }
    }

    static void dueSheet(String what, PaperStorm storm, int[][] want) {
        for (int row = 0; row < 5; row++) {
            for (int column = 0; column < 5; column++) {
                due(what + " cell " + row + " " + column, storm.pressureAt(row, column), want[row][column]);
            }
        }
    }

    static void finish(String name) {
        System.out.println(name + ": " + checked + " checks, " + wrong + " wrong");
        if (wrong > 0 || checked == 0) {
            System.exit(1);
        }
    }
}
