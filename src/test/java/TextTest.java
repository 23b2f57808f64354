import java.util.NoSuchElementException;

/** Promises 43 to 46: the text buffer and its commands. */
public final class TextTest {
    private static final Class<IllegalArgumentException> ILLEGAL = IllegalArgumentException.class;
    private static final Class<IllegalStateException> STATE = IllegalStateException.class;
    private static final Class<NoSuchElementException> NOTHING = NoSuchElementException.class;

    public static void main(String[] args) {
        type();
        eachCommand();
        manyCommands();
        malformed();
        failing();
        errorPosition();
        failedCommand();
        Checks.finish("TextTest");
    }

    private static void type() {
        PaperStorm storm = new PaperStorm();
        Checks.due("43 first", storm.type(' '), 1);
        Checks.due("43 second", storm.type('~'), 2);
        for (char character : new char[] {(char) 31, (char) 127, (char) 0, (char) 10, (char) 228, (char) 65535}) {
            Checks.refused("43 character", ILLEGAL, () -> storm.type(character));
        }
        Checks.due("43 third", storm.type('x'), 3);
        for (int length = 4; length <= 60; length++) {
            Checks.due("43 length", storm.type('x'), length);
        }
        Checks.refused("43 full", STATE, () -> storm.type('x'));
        Checks.refused("43 full, but the character first", ILLEGAL, () -> storm.type((char) 127));
        Checks.refused("43 typing is no modification", STATE, () -> storm.undo());
        Checks.refused("44 malformed", ILLEGAL, () -> storm.execute());
        Checks.due("43 emptied", storm.type('x'), 1);
        storm.save();
        storm.type('y');
        storm.restore();
        Checks.due("43 not restored", storm.type('z'), 3);
        storm.setThreshold(3);
        storm.undo();
        Checks.due("43 not undone", storm.type('z'), 4);
    }

    private static void eachCommand() {
        PaperStorm storm = new PaperStorm();
        Checks.due("44 set", Checks.run(storm, "set 0 1 9"), 1);
        Checks.due("44 set, one digit", storm.pressureAt(0, 1), 9);
        Checks.run(storm, "set 4 3 99");
        Checks.due("44 set, two digits", storm.pressureAt(4, 3), 99);
        Checks.run(storm, "set 4 3 07");
        Checks.due("44 set, zero first", storm.pressureAt(4, 3), 7);
        Checks.run(storm, "row 2");
        Checks.due("44 row", storm.pressureAt(0, 1), 30);
        storm.setPressure(0, 3, 81);
        Checks.run(storm, "column 2");
        Checks.due("44 column", storm.pressureAt(0, 1), 56);
        dueShift("shift n", 4, 1);
        dueShift("shift s", 1, 1);
        dueShift("shift e", 0, 2);
        dueShift("shift w", 0, 0);
        Checks.run(storm, "threshold 7");
        Checks.due("44 threshold, one digit", storm.threshold(), 7);
        Checks.run(storm, "threshold 50");
        Checks.due("44 threshold, two digits", storm.threshold(), 50);
        Checks.run(storm, "weight 0 3 2");
        Checks.due("44 weight", storm.weightOf(0, 3), 2);
        Checks.run(storm, "issue 2");
        Checks.due("44 issue", storm.dayOf(0), 2);
        Checks.due("44 issue says the likeliest", storm.weatherOf(0), storm.likeliest(2));
        Checks.run(storm, "withdraw 0");
        Checks.due("44 withdraw", storm.forecastCount(), 0);
        Checks.run(storm, "observe 3");
        Checks.due("44 observe", storm.weather(), 3);
        storm.setThreshold(1);
        int shown = storm.shownWeather();
        Checks.due("44 the sheet shows a wind", shown > 0, true);
        Checks.run(storm, "look");
        Checks.due("44 look", storm.weather(), shown);
        Checks.due("44 look makes a day", storm.day(), 2);
    }

    private static void dueShift(String text, int row, int column) {
        PaperStorm storm = new PaperStorm();
        storm.setPressure(0, 1, 3);
        Checks.due("44 " + text, Checks.run(storm, text), 1);
        Checks.due("44 " + text, storm.pressureAt(row, column), 3);
    }

    private static void manyCommands() {
        PaperStorm storm = new PaperStorm();
        Checks.due("44 three", Checks.run(storm, "set 0 0 10;set 0 0 90;set 4 4 1"), 3);
        Checks.due("44 in order", storm.pressureAt(0, 0), 90);
        Checks.due("44 one modification", storm.undo(), 0);
        Checks.due("44 all undone", storm.totalPressure(), 1250);
        Checks.due("44 twelve", Checks.run(storm, "look;look;look;look;look;look;look;look;look;look;look;look"), 12);
        Checks.due("44 twelve days", storm.day(), 12);
        Checks.due("44 sixty characters",
                Checks.run(storm, "threshold 11;threshold 12;threshold 13;threshold 4;observe 1"), 5);
        Checks.due("44 the state that the commands made counts", Checks.run(storm, "threshold 1;set 2 2 60;look"), 3);
        Checks.due("44 look at what was set", storm.weather(), 1);
    }

    private static void dueMalformed(String text, int position) {
        PaperStorm storm = new PaperStorm();
        Checks.typeAll(storm, text);
        Checks.refused("44 malformed " + text, ILLEGAL, () -> storm.execute());
        Checks.due("45 " + text, storm.errorPosition(), position);
        Checks.due("44 emptied " + text, storm.type('x'), 1);
        Checks.refused("44 nothing done " + text, STATE, () -> storm.undo());
        Checks.refused("46 none " + text, NOTHING, () -> storm.failedCommand());
    }

    private static void malformed() {
        String[] words = {"set", "row", "column", "shift ", "threshold", "weight", "issue", "withdraw", "observe", "look"};
        for (String word : words) {
            for (int length = 0; length < word.length(); length++) {
                dueMalformed(word.substring(0, length), length);
                dueMalformed(word.substring(0, length) + "%", length);
            }
        }
        dueMalformed(" look", 0);
        dueMalformed("look ", 4);
        dueMalformed("look 1", 4);
        dueMalformed("look;", 5);
        dueMalformed("look;;look", 5);
        dueMalformed(";look", 0);
        dueMalformed("look; look", 5);
        dueMalformed("Look", 0);
        dueMalformed("whift", 1);
        dueMalformed("sot", 1);
        dueMalformed("setd", 3);
        dueMalformed("set", 3);
        dueMalformed("set ", 4);
        dueMalformed("set  1", 4);
        dueMalformed("set x", 4);
        dueMalformed("set 0 0", 7);
        dueMalformed("set 00 0 9", 5);
        dueMalformed("set 0 0 x", 8);
        dueMalformed("set 0 0 100", 10);
        dueMalformed("set 0 0 9 ", 9);
        dueMalformed("row 12", 5);
        dueMalformed("row 1,row 2", 5);
        dueMalformed("column 02", 8);
        dueMalformed("shiftn", 5);
        dueMalformed("shift  n", 6);
        dueMalformed("shift x", 6);
        dueMalformed("shift ns", 7);
        dueMalformed("threshold 123", 12);
        dueMalformed("threshold 1 2", 11);
        dueMalformed("weight 0 0", 10);
        dueMalformed("weight 0 0 00", 12);
        dueMalformed("issue 1;issue 2;issue", 21);
        dueMalformed("withdraw 10", 10);
        dueMalformed("observe 1:", 9);
        dueMalformed("observe /", 8);
        dueMalformed("observe :", 8);
        dueMalformed("row 9;x", 6);
        dueMalformed("look;look;look;look;look;look;look;look;look;look;look;look;", 60);
        dueMalformed("threshold 11;threshold 12;threshold 13;threshold 14;observe ", 60);
    }

    private static void dueFailing(String text, int command) {
        PaperStorm storm = new PaperStorm();
        storm.issue(3);
        storm.setWeight(1, 0, 0);
        storm.setWeight(1, 2, 0);
        storm.setWeight(1, 3, 0);
        Checks.typeAll(storm, text);
        Checks.refused("44 failing " + text, STATE, () -> storm.execute());
        Checks.due("46 " + text, storm.failedCommand(), command);
        Checks.due("44 emptied " + text, storm.type('x'), 1);
        Checks.due("44 taken back " + text, storm.totalPressure(), 1250);
        Checks.due("44 taken back " + text, storm.threshold(), 20);
        Checks.due("44 taken back " + text, storm.day(), 0);
        Checks.due("44 taken back " + text, storm.weather(), 0);
        Checks.due("44 taken back " + text, storm.weightOf(0, 0), 1);
        Checks.due("44 taken back " + text, storm.forecastCount(), 1);
        Checks.due("44 no modification " + text, storm.undo(), 3);
        Checks.refused("45 none " + text, NOTHING, () -> storm.errorPosition());
    }

    private static void failing() {
        dueFailing("set 5 0 9", 0);
        dueFailing("set 0 9 9", 0);
        dueFailing("row 0", 0);
        dueFailing("row 4", 0);
        dueFailing("column 0", 0);
        dueFailing("column 4", 0);
        dueFailing("threshold 0", 0);
        dueFailing("threshold 00", 0);
        dueFailing("threshold 51", 0);
        dueFailing("weight 4 0 1", 0);
        dueFailing("weight 0 4 1", 0);
        dueFailing("weight 0 0 4", 0);
        dueFailing("weight 1 1 0", 0);
        dueFailing("issue 0", 0);
        dueFailing("issue 4", 0);
        dueFailing("withdraw 1", 0);
        dueFailing("observe 4", 0);
        dueFailing("set 0 0 1;shift e;row 1;threshold 9;weight 0 0 3;row 9", 5);
        dueFailing("issue 1;issue 1;issue 1;issue 1;issue 1;issue 1", 5);
        dueFailing("look;observe 0;withdraw 0;withdraw 0", 3);
        dueFailing("look;look;look;withdraw 0;look", 3);
        dueFailing("weight 2 0 0;weight 2 1 0;weight 2 2 0;weight 2 3 0", 3);
        PaperStorm storm = new PaperStorm();
        for (int time = 1; time <= 9; time++) {
            storm.setThreshold(time);
        }
        Checks.typeAll(storm, "threshold 40;row 0");
        Checks.refused("44 failing", STATE, () -> storm.execute());
        for (int left = 7; left >= 0; left--) {
            Checks.due("47 a failed text leaves what can be undone", storm.undo(), left);
        }
        Checks.due("47 to the first of eight", storm.threshold(), 1);
    }

    private static void errorPosition() {
        PaperStorm storm = new PaperStorm();
        Checks.refused("45 none", NOTHING, () -> storm.errorPosition());
        Checks.refused("44 empty", ILLEGAL, () -> storm.execute());
        Checks.due("45 empty", storm.errorPosition(), 0);
        Checks.typeAll(storm, "look!");
        Checks.refused("44 malformed", ILLEGAL, () -> storm.execute());
        Checks.due("45 the last one", storm.errorPosition(), 4);
        Checks.run(storm, "look");
        Checks.due("45 after a good text", storm.errorPosition(), 4);
        Checks.typeAll(storm, "row 7");
        Checks.refused("44 failing", STATE, () -> storm.execute());
        Checks.due("45 after a failing text", storm.errorPosition(), 4);
        storm.undo();
        Checks.due("45 not undone", storm.errorPosition(), 4);
        new PaperStorm();
        Checks.refused("45 another object", NOTHING, () -> new PaperStorm().errorPosition());
    }

    private static void failedCommand() {
        PaperStorm storm = new PaperStorm();
        Checks.refused("46 none", NOTHING, () -> storm.failedCommand());
        storm.save();
        Checks.typeAll(storm, "look;row 7");
        Checks.refused("44 failing", STATE, () -> storm.execute());
        Checks.due("46 failed", storm.failedCommand(), 1);
        storm.restore();
        Checks.due("46 not restored", storm.failedCommand(), 1);
        Checks.run(storm, "look");
        Checks.due("46 after a good text", storm.failedCommand(), 1);
        Checks.refused("44 malformed", ILLEGAL, () -> storm.execute());
        Checks.due("46 after a malformed text", storm.failedCommand(), 1);
        Checks.typeAll(storm, "issue 9;row 7");
        Checks.refused("44 failing", STATE, () -> storm.execute());
        Checks.due("46 the last text", storm.failedCommand(), 0);
    }
}
