/** The boundary cases of "Text", promises 43 to 46. */
public final class TextEdgesTest {
    // A text, and behind it for each place in it, and for the one at its end, the characters that can stand there.
    private static final String[][] FORMS = {
        {"set 0 1 23", "srctwiol", "eh", "t", " ", "#", " ", "#", " ", "#", "#;", ";"},
        {"set 9 9 8", "srctwiol", "eh", "t", " ", "#", " ", "#", " ", "#", "#;"},
        {"row 0", "srctwiol", "o", "w", " ", "#", ";"},
        {"column 9", "srctwiol", "o", "l", "u", "m", "n", " ", "#", ";"},
        {"shift n", "srctwiol", "eh", "i", "f", "t", " ", "nesw", ";"},
        {"shift e", "srctwiol", "eh", "i", "f", "t", " ", "nesw", ";"},
        {"shift s", "srctwiol", "eh", "i", "f", "t", " ", "nesw", ";"},
        {"shift w", "srctwiol", "eh", "i", "f", "t", " ", "nesw", ";"},
        {"threshold 7", "srctwiol", "h", "r", "e", "s", "h", "o", "l", "d", " ", "#", "#;"},
        {"threshold 00", "srctwiol", "h", "r", "e", "s", "h", "o", "l", "d", " ", "#", "#;", ";"},
        {"weight 0 4 9", "srctwiol", "ei", "i", "g", "h", "t", " ", "#", " ", "#", " ", "#", ";"},
        {"issue 5", "srctwiol", "s", "s", "u", "e", " ", "#", ";"},
        {"withdraw 0", "srctwiol", "ei", "t", "h", "d", "r", "a", "w", " ", "#", ";"},
        {"observe 3", "srctwiol", "b", "s", "e", "r", "v", "e", " ", "#", ";"},
        {"look", "srctwiol", "o", "o", "k", ";"}};

    public static void main(String[] args) {
        everyCharacter();
        sixtyCharacters();
        everyPlaceInEveryForm();
        betweenCommands();
        everyDigit();
        everyNumber();
        everyDirection();
        positionsOfFailures();
        malformedBeforeFailing();
        counts();
        storedPositions();
        storedCommands();
        looks();
        Checks.finish("TextEdgesTest");
    }

    /** "Throws IllegalArgumentException if the character is not from 32 to 126" */
    private static void everyCharacter() {
        for (int code = 0; code < 300; code++) {
            char character = (char) code;
            PaperStorm storm = new PaperStorm();
            if (code >= 32 && code <= 126) {
                Checks.due("43 character " + code, storm.type(character), 1);
            } else {
                Checks.refused("43 character " + code, Edges.ILLEGAL, () -> storm.type(character));
                Checks.due("43 nothing was typed", storm.type('x'), 1);
            }
        }
    }

    /** "a buffer of at most 60 characters" */
    private static void sixtyCharacters() {
        PaperStorm storm = new PaperStorm();
        String full = "observe 1;observe 1;observe 1;observe 1;observe 1;observe 1 ";
        for (int index = 0; index < 59; index++) {
            Checks.due("43 length", storm.type(full.charAt(index)), index + 1);
        }
        Checks.due("43 the sixtieth", storm.type(full.charAt(59)), 60);
        for (char character : new char[] {' ', '~', 'x'}) {
            Checks.refused("43 the sixty-first", Edges.STATE, () -> storm.type(character));
        }
        Checks.refused("43 the character goes first", Edges.ILLEGAL, () -> storm.type((char) 31));
        Checks.refused("43 the character goes first", Edges.ILLEGAL, () -> storm.type((char) 127));
        Checks.refused("44 the sixtieth counts", Edges.ILLEGAL, storm::execute);
        Checks.due("45 the sixtieth", storm.errorPosition(), 59);
        Checks.due("43 empty again", storm.type('l'), 1);
        Checks.typeAll(storm, "ook");
        Checks.due("44 nothing is left of the text before", storm.execute(), 1);
        for (int length = 1; length <= 60; length++) {
            Checks.due("43 full again", storm.type('s'), length);
        }
        Checks.refused("43 the sixty-first again", Edges.STATE, () -> storm.type('s'));
    }

    private static void dueMalformed(String text, int position) {
        PaperStorm storm = new PaperStorm();
        Checks.typeAll(storm, text);
        Checks.refused("44 malformed: " + text, Edges.ILLEGAL, storm::execute);
        Checks.due("45 " + text, Edges.answerOf(storm, PaperStorm::errorPosition), position);
        Checks.due("44 emptied: " + text, storm.type('x'), 1);
    }

    private static void dueWellFormed(String text) {
        PaperStorm storm = new PaperStorm();
        Checks.typeAll(storm, text);
        Edges.answerOf(storm, PaperStorm::execute);
        Checks.refused("45 well-formed: " + text, Edges.NOTHING, storm::errorPosition);
    }

    private static boolean canStand(String there, char character) {
        boolean isDigit = character >= '0' && character <= '9';
        return there.indexOf(character) >= 0 && character != '#' || isDigit && there.indexOf('#') >= 0;
    }

    /** "the index of its first character that cannot continue any valid text, or its length if it ends too early" */
    private static void everyPlaceInEveryForm() {
        for (String[] form : FORMS) {
            for (String before : new String[] {"", "look;", "set 0 0 5;", "threshold 20;row 1;"}) {
                String text = before + form[0];
                for (int index = 0; index <= form[0].length(); index++) {
                    String start = text.substring(0, before.length() + index);
                    // Where a command can be over, another one can follow.
                    if (form[index + 1].indexOf(';') < 0) {
                        dueMalformed(start, start.length());
                    } else {
                        dueWellFormed(start);
                        dueMalformed(start + ";", start.length() + 1);
                    }
                    for (char character = 32; character <= 126; character++) {
                        if (!canStand(form[index + 1], character)) {
                            dueMalformed(start + character, start.length());
                        }
                    }
                    dueMalformed(start + "%look", start.length());
                    dueMalformed(start + "  0;%", start.length() + (form[index + 1].equals(" ") ? 1 : 0));
                }
            }
        }
    }

    private static void betweenCommands() {
        dueMalformed("", 0);
        dueMalformed(";", 0);
        dueMalformed(" ", 0);
        dueMalformed(" look", 0);
        dueMalformed("look;;look", 5);
        dueMalformed("look; look", 5);
        dueMalformed("look ;look", 4);
        dueMalformed("look,look", 4);
        dueMalformed("look;LOOK", 5);
        dueMalformed("looklook", 4);
        dueMalformed("row 1row 2", 5);
        dueMalformed("set 1 1 1row 2", 9);
        dueMalformed("shift nshift s", 7);
        dueMalformed("look;look;look;look;look;look;look;look;look;look;look;loo", 58);
        dueMalformed("look;look;look;look;look;look;look;look;look;look;look;look ", 59);
        dueMalformed("look;look;look;look;look;look;look;look;look;look;look;look;", 60);
        dueMalformed("observe 1;observe 1;observe 1;observe 1;observe 1;observe 1x", 59);
        dueMalformed("observe 1;observe 1;observe 1;observe 1;observe 1;threshold ", 60);
        dueMalformed("observe 1;observe 1;observe 1;observe 1;observe 1;threshol 1", 58);
        dueWellFormed("observe 1;observe 1;observe 1;observe 1;observe 1;observe 1");
        dueWellFormed("observe 1;observe 1;observe 1;observe 1;observe 1;set 0 0 99");
    }

    /** A command of a text does what its method does, and fails if that one would throw an exception. */
    private static void dueAsCall(String text, Edges.Maker maker, Edges.On call) {
        PaperStorm called = maker.make();
        PaperStorm typed = maker.make();
        Object failedBefore = Edges.answerOf(typed, PaperStorm::failedCommand);
        boolean fails = Edges.answerOf(called, call) instanceof Class;
        Checks.typeAll(typed, text);
        Checks.due("44 " + text, Edges.answerOf(typed, PaperStorm::execute), fails ? Edges.STATE : (Object) 1);
        Checks.due("44 like its method: " + text, Edges.now(typed), Edges.now(called));
        Checks.due("46 " + text, Edges.answerOf(typed, PaperStorm::failedCommand), fails ? 0 : failedBefore);
        Checks.due("47 like its method: " + text, Edges.answerOf(typed, PaperStorm::undo),
                Edges.answerOf(called, PaperStorm::undo));
        Checks.due("47 like its method: " + text, Edges.now(typed), Edges.now(called));
    }

    private static PaperStorm uneven() {
        PaperStorm storm = Edges.busy();
        storm.execute();
        return storm;
    }

    private static void everyDigit() {
        Edges.Maker[] makers = {Edges::fresh, TextEdgesTest::uneven};
        for (Edges.Maker maker : makers) {
            for (int digit = 0; digit <= 9; digit++) {
                int d = digit;
                dueAsCall("row " + d, maker, storm -> storm.foldRow(d));
                dueAsCall("column " + d, maker, storm -> storm.foldColumn(d));
                dueAsCall("issue " + d, maker, storm -> storm.issue(d));
                dueAsCall("withdraw " + d, maker, storm -> storm.withdraw(d));
                dueAsCall("observe " + d, maker, storm -> storm.observe(d));
                dueAsCall("set " + d + " 3 6", maker, storm -> storm.setPressure(d, 3, 6));
                dueAsCall("set 1 " + d + " 42", maker, storm -> storm.setPressure(1, d, 42));
                dueAsCall("weight " + d + " 2 3", maker, storm -> storm.setWeight(d, 2, 3));
                dueAsCall("weight 3 " + d + " 2", maker, storm -> storm.setWeight(3, d, 2));
                dueAsCall("weight 2 0 " + d, maker, storm -> storm.setWeight(2, 0, d));
                dueAsCall("weight 1 1 " + d, maker, storm -> storm.setWeight(1, 1, d));
            }
            dueAsCall("look", maker, storm -> storm.observe(storm.shownWeather()));
        }
    }

    /** "n is a blank and one or two decimal digits" */
    private static void everyNumber() {
        for (int number = 0; number <= 99; number++) {
            int n = number;
            String two = (n < 10 ? "0" : "") + n;
            dueAsCall("set 4 0 " + n, Edges::fresh, storm -> storm.setPressure(4, 0, n));
            dueAsCall("set 0 4 " + two, Edges::fresh, storm -> storm.setPressure(0, 4, n));
            dueAsCall("threshold " + n, Edges::fresh, storm -> storm.setThreshold(n));
            dueAsCall("threshold " + two, Edges::fresh, storm -> storm.setThreshold(n));
        }
    }

    private static void everyDirection() {
        for (char direction : "nesw".toCharArray()) {
            dueAsCall("shift " + direction, TextEdgesTest::uneven, storm -> storm.shift(direction));
        }
    }

    private static void dueFailing(String text, int command) {
        PaperStorm storm = new PaperStorm();
        Checks.typeAll(storm, text);
        Checks.refused("44 failing: " + text, Edges.STATE, storm::execute);
        Checks.due("46 " + text, storm.failedCommand(), command);
        Checks.due("44 all taken back: " + text, Edges.now(storm), Edges.now(new PaperStorm()));
        Checks.due("44 emptied: " + text, storm.type('x'), 1);
        Checks.refused("47 no modification: " + text, Edges.STATE, storm::undo);
        Checks.refused("45 not malformed: " + text, Edges.NOTHING, storm::errorPosition);
    }

    /** "its index is stored": from 0 up to 11, behind which a text has no room. */
    private static void positionsOfFailures() {
        StringBuilder before = new StringBuilder();
        for (int command = 0; command <= 11; command++) {
            dueFailing(before + "row 0", command);
            if (command < 10) {
                dueFailing(before + "row 9;look", command);
                dueFailing(before + "row 4;row 4", command);
            }
            before.append("look;");
        }
        dueFailing("issue 1;issue 2;issue 3;issue 1;issue 2;issue 3;issue 1", 6);
        dueFailing("issue 1;withdraw 0;withdraw 0", 2);
        dueFailing("issue 1;look;withdraw 0", 2);
        dueFailing("weight 0 0 0;weight 0 1 0;weight 0 2 0;weight 0 3 0", 3);
        dueFailing("threshold 1;threshold 50;threshold 51", 2);
        dueFailing("set 4 4 99;shift n;shift w;column 3;row 3;set 4 5 0", 5);
        // The commands before make way: six forecasts again, and a change in place of the last one.
        dueWellFormed("issue 1;issue 1;issue 1;issue 1;issue 1;issue 1;look;issue 1");
        PaperStorm storm = new PaperStorm();
        Checks.due("44 room after scoring", Checks.run(storm, "issue 1;issue 1;issue 1;issue 1;issue 1;issue 1;look"), 7);
        Checks.due("44 scored", storm.scoredCount(), 6);
    }

    /** "If several exceptions apply, the one that is documented first is thrown": a malformed text executes nothing. */
    private static void malformedBeforeFailing() {
        for (String text : new String[] {"row 0;", "row 0;x", "look;row 9;look;", "row 9 "}) {
            PaperStorm storm = new PaperStorm();
            Checks.typeAll(storm, text);
            Checks.refused("44 malformed goes first: " + text, Edges.ILLEGAL, storm::execute);
            Checks.refused("46 nothing failed: " + text, Edges.NOTHING, storm::failedCommand);
            Checks.due("44 nothing was done: " + text, storm.day(), 0);
        }
    }

    /** "Returns the number of commands", from 1 up to the 12 for which there is room. */
    private static void counts() {
        StringBuilder text = new StringBuilder("look");
        for (int count = 1; count <= 12; count++) {
            PaperStorm storm = new PaperStorm();
            Checks.due("44 commands", Checks.run(storm, text.toString()), count);
            Checks.due("44 days", storm.day(), count);
            Checks.due("47 one modification", storm.undo(), 0);
            Checks.due("47 all undone", Edges.now(storm), Edges.now(new PaperStorm()));
            text.append(";look");
        }
    }

    /** "Returns the error position of the last malformed text", which other texts leave as it is. */
    private static void storedPositions() {
        PaperStorm storm = new PaperStorm();
        Checks.refused("45 none so far", Edges.NOTHING, storm::errorPosition);
        Checks.run(storm, "look");
        Checks.refused("45 none so far", Edges.NOTHING, storm::errorPosition);
        executeBad(storm, "row 0", Edges.STATE);
        Checks.refused("45 none so far", Edges.NOTHING, storm::errorPosition);
        executeBad(storm, "lo", Edges.ILLEGAL);
        Checks.due("45 the first", storm.errorPosition(), 2);
        Checks.due("45 asked again", storm.errorPosition(), 2);
        executeBad(storm, "row 0", Edges.STATE);
        Checks.run(storm, "look");
        Checks.due("45 after other texts", storm.errorPosition(), 2);
        storm.save();
        executeBad(storm, "", Edges.ILLEGAL);
        Checks.due("45 the last one", storm.errorPosition(), 0);
        storm.undo();
        Checks.due("45 not undone", storm.errorPosition(), 0);
        storm.restore();
        Checks.due("45 not restored", storm.errorPosition(), 0);
        executeBad(storm, "observe 1;observe 1;observe 1;observe 1;observe 1;observe 1;", Edges.ILLEGAL);
        Checks.due("45 the greatest one", storm.errorPosition(), 60);
    }

    private static void storedCommands() {
        PaperStorm storm = new PaperStorm();
        Checks.refused("46 none so far", Edges.NOTHING, storm::failedCommand);
        Checks.run(storm, "look;look");
        executeBad(storm, "look;lo", Edges.ILLEGAL);
        Checks.refused("46 none so far", Edges.NOTHING, storm::failedCommand);
        executeBad(storm, "look;look;row 0", Edges.STATE);
        Checks.due("46 the first", storm.failedCommand(), 2);
        Checks.due("46 asked again", storm.failedCommand(), 2);
        executeBad(storm, "lo", Edges.ILLEGAL);
        Checks.run(storm, "look;look");
        Checks.due("46 after other texts", storm.failedCommand(), 2);
        storm.save();
        executeBad(storm, "row 0", Edges.STATE);
        Checks.due("46 the last one", storm.failedCommand(), 0);
        storm.undo();
        Checks.due("46 not undone", storm.failedCommand(), 0);
        storm.restore();
        Checks.due("46 not restored", storm.failedCommand(), 0);
    }

    private static void executeBad(PaperStorm storm, String text, Class<? extends RuntimeException> want) {
        Checks.typeAll(storm, text);
        Checks.refused("44 " + text, want, storm::execute);
    }

    /** "observe with the weather that the sheet shows": at 1, 2, 3, 4, 7 and 8 regions, as the commands before left it. */
    private static void looks() {
        int[] places = {0, 2, 4, 10, 12, 14, 20};
        int[] islands = {0, 1, 2, 3, 6, 7};
        int[] shown = {0, 1, 1, 2, 2, 3};
        for (int index = 0; index < islands.length; index++) {
            PaperStorm storm = new PaperStorm();
            for (int island = 0; island < islands[index]; island++) {
                storm.setPressure(places[island] / 5, places[island] % 5, 99);
            }
            storm.issue(1);
            Checks.due("14 regions", storm.regionCount(), islands[index] + 1);
            Checks.due("44 look", Checks.run(storm, "look"), 1);
            Checks.due("44 look observes", storm.weather(), shown[index]);
            Checks.due("44 look scores", storm.totalError(), shown[index]);
            Checks.due("44 look counts a day", storm.day(), 1);
        }
        PaperStorm storm = new PaperStorm();
        Checks.run(storm, "look;set 2 2 99;look");
        Checks.due("44 look at what was set before", storm.weather(), 1);
        Checks.run(storm, "threshold 50;look");
        Checks.due("44 look with the threshold before", storm.weather(), 0);
    }
}
