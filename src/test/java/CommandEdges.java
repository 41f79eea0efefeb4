/** The boundary cases of commands: "Commands" of the terms, and promises 40 to 44. */
final class CommandEdges {
    private static final String FIRST_WRONG = "The error position of a text is the index of the first character "
            + "that cannot continue any command text.";
    private static final String ALL_CONTINUE = "If every character can, the error position is the length of the "
            + "text.";
    private static final String ALL_OR_NONE = "Either all commands are carried out, or none.";

    private CommandEdges() {
    }

    static void all() {
        sixtyCharacters();
        codesAtTheEnds();
        codesBeyondTheEnds();
        fullBuffer();
        formOfOneCommand();
        formOfRepetitions();
        formOfNumbers();
        formOfDegrees();
        formOfDigits();
        parametersInTheirOrder();
        firstCharacterThatCannotContinue();
        errorInALaterCommand();
        everyCharacterContinues();
        emptyText();
        fullTextThatGoesOn();
        keywordsCharacterByCharacter();
        allOrNone();
        allOrNoneInAFullLandscape();
        textIsEmptyAfterwards();
        firstFailedCommand();
        noCommandText();
        commandThatFails();
        errorPositionSetLast();
        noErrorPosition();
        failedCommandOfTheLatestRun();
        failedCommandFromZero();
        noFailedCommand();
        kindOfTheLatestRun();
        everyKind();
        noFailureKind();
    }

    private static void runs(IceBells x, String text, int count) {
        Checks.type(x, text);
        Cases.due("run() of \"" + text + "\"", count, x.run());
    }

    private static void noText(IceBells x, String text, int position) {
        Checks.type(x, text);
        Cases.thrown("run() of \"" + text + "\"", Checks.ARGUMENT, () -> x.run());
        Cases.due("errorPosition() of \"" + text + "\"", position, x.errorPosition());
    }

    private static void noText(String text, int position) {
        noText(new IceBells(), text, position);
    }

    private static void fails(IceBells x, String text, int command, char kind) {
        Checks.type(x, text);
        Cases.thrown("run() of \"" + text + "\"", Checks.STATE, () -> x.run());
        Cases.due("failedCommand() of \"" + text + "\"", command, x.failedCommand());
        Cases.due("failureKind() of \"" + text + "\"", kind, x.failureKind());
    }

    private static void sixtyCharacters() {
        Cases.quote(0, "The command text is a buffer of at most 60 characters.");
        IceBells x = new IceBells();
        String text = "air 1;air 2;air 3;air 4;air 5;air 6;air 7;air 8;air 9;air 10";
        Cases.due("the length of the text", 60, text.length());
        for (int i = 0; i < 60; i++) {
            Cases.due("append() of character " + i, i + 1, x.append(text.charAt(i)));
        }
        Cases.thrown("append('0')", Checks.STATE, () -> x.append('0'));
        Cases.due("run()", 10, x.run());
        Cases.due("air()", 10, x.air());
    }

    private static void codesAtTheEnds() {
        Cases.quote(40, "Returns the length of the command text after the call.");
        IceBells x = new IceBells();
        for (int code = 32; code <= 79; code++) {
            Cases.due("append of " + code, code - 31, x.append((char) code));
        }
        IceBells y = new IceBells();
        for (int code = 80; code <= 126; code++) {
            Cases.due("append of " + code, code - 79, y.append((char) code));
        }
    }

    private static void codesBeyondTheEnds() {
        Cases.quote(40, "Throws `IllegalArgumentException` if the code of the character is not from 32 to 126");
        IceBells x = new IceBells();
        for (int code : new int[] {31, 127, 0, 10, 128, 255, 256 + 'a', 32767, 32768, 65535}) {
            Cases.thrown("append of " + code, Checks.ARGUMENT, () -> x.append((char) code));
        }
        Cases.due("append(' ')", 1, x.append(' '));
        Cases.due("append('~')", 2, x.append('~'));
    }

    private static void fullBuffer() {
        Cases.quote(40, "Throws `IllegalStateException` if the command text has 60 characters");
        IceBells x = new IceBells();
        for (int i = 1; i <= 60; i++) {
            Cases.due("append('a')", i, x.append('a'));
        }
        Cases.thrown("append('a') to 60", Checks.STATE, () -> x.append('a'));
        Cases.thrown("append(' ') to 60", Checks.STATE, () -> x.append(' '));
        Cases.thrown("run()", Checks.ARGUMENT, () -> x.run());
        Cases.due("append('a') to the empty text", 1, x.append('a'));
    }

    private static final String FORM =
            "A command text has the following form, where braces mean zero or more repetitions and brackets an optional part:";

    private static void formOfOneCommand() {
        Cases.quote(0, FORM);
        IceBells x = new IceBells();
        runs(x, "lake 200", 1);
        Cases.due("depth(0)", 200, x.depth(0));
        runs(x, "freeze 0 12 -7", 1);
        Cases.due("the thicknesses", "12", Cases.thicknesses(x));
        Cases.due("the temperatures", "-7", Cases.temperatures(x));
        runs(x, "air 3", 1);
        Cases.due("air()", 3, x.air());
        runs(x, "pass 2", 1);
        Cases.due("hour()", 2, x.hour());
        runs(x, "window 10-12", 1);
        Cases.due("the windows", "10-12", Cases.windows(x));
        runs(x, "open 0", 1);
        Cases.due("the windows", "", Cases.windows(x));
        runs(x, "strike 00", 1);
        Cases.due("pealCount()", 1, x.pealCount());
    }

    private static void formOfRepetitions() {
        Cases.quote(0, FORM);
        IceBells x = new IceBells();
        StringBuilder text = new StringBuilder("air 1");
        for (int count = 1; count <= 10; count++) {
            runs(x, text.toString(), count);
            Cases.due("air()", count, x.air());
            text.append(";air ").append(count + 1);
        }
        noText(";air 1", 0);
        noText("air 1;", 6);
        noText("air 1;;air 2", 6);
        noText("air 1 ;air 2", 5);
        noText("air 1; air 2", 6);
        noText("air 1,air 2", 5);
    }

    private static void formOfNumbers() {
        Cases.quote(0, FORM);
        IceBells x = new IceBells();
        runs(x, "lake 20", 1);
        runs(x, "lake 020", 1);
        Cases.due("depth(1)", 20, x.depth(1));
        runs(x, "pass 9;pass 09;pass 009", 3);
        Cases.due("hour()", 27, x.hour());
        noText("lake ", 5);
        noText("lake 1000", 8);
        noText("pass 0001", 8);
        noText("pass -1", 5);
        noText("pass +1", 5);
        noText("window 1000-1", 10);
        noText("window 1-1000", 12);
        noText("window -1-2", 7);
        noText("window 1--2", 9);
        noText("freeze 0 1000 0", 12);
        noText("freeze 0 -1 0", 9);
        noText("freeze 0 1 1000", 14);
        noText("air 1000", 7);
    }

    private static void formOfDegrees() {
        Cases.quote(0, FORM);
        IceBells x = new IceBells();
        runs(x, "air -40", 1);
        Cases.due("air()", -40, x.air());
        runs(x, "air -0", 1);
        Cases.due("air()", 0, x.air());
        runs(x, "air 020", 1);
        Cases.due("air()", 20, x.air());
        runs(x, "air -007;lake 100;freeze 0 9 -009;freeze 0 1 0", 4);
        Cases.due("air()", -7, x.air());
        Cases.due("the temperatures", "-9 0", Cases.temperatures(x));
        noText("air -", 5);
        noText("air --1", 5);
        noText("air - 1", 5);
        noText("air -1000", 8);
        noText("freeze 0 5 --5", 12);
    }

    private static void formOfDigits() {
        Cases.quote(0, FORM);
        noText("open ", 5);
        noText("open 00", 6);
        noText("open -1", 5);
        noText("strike 0", 8);
        noText("strike 0 0", 8);
        noText("strike 000", 9);
        noText("freeze 00 5 0", 8);
        noText("freeze  5 0", 7);
        IceBells x = new IceBells();
        fails(x, "open 9", 0, 'b');
        fails(x, "strike 99", 0, 'b');
        fails(x, "freeze 9 1 0", 0, 'b');
    }

    private static void parametersInTheirOrder() {
        Cases.quote(0, "The commands call addLake(), freeze(), setAir(), pass(), addWindow(), removeWindow() and "
                + "strike(), with the numbers of the command as parameters in their order.");
        IceBells x = new IceBells();
        runs(x, "lake 100;lake 200", 2);
        Cases.due("depth(0)", 100, x.depth(0));
        Cases.due("depth(1)", 200, x.depth(1));
        runs(x, "freeze 1 5 -9;freeze 1 4 -30", 2);
        Cases.due("layerCount(0)", 0, x.layerCount(0));
        Cases.due("thickness(1, 0)", 5, x.thickness(1, 0));
        Cases.due("temperature(1, 0)", -9, x.temperature(1, 0));
        Cases.due("thickness(1, 1)", 4, x.thickness(1, 1));
        Cases.due("temperature(1, 1)", -30, x.temperature(1, 1));
        runs(x, "strike 10;strike 11", 2);
        Cases.due("the peals", "s1:55@0 s1:29@0", Cases.peals(x));
        runs(x, "window 5-9;window 3-4;window 10-999", 3);
        Cases.due("the windows", "3-4 5-9 10-999", Cases.windows(x));
        runs(x, "open 1", 1);
        Cases.due("the windows", "3-4 10-999", Cases.windows(x));
        runs(x, "air -12;pass 3", 2);
        Cases.due("air()", -12, x.air());
        Cases.due("hour()", 3, x.hour());
    }

    private static void firstCharacterThatCannotContinue() {
        Cases.quote(0, FIRST_WRONG);
        noText(" ", 0);
        noText("x", 0);
        noText("Lake 20", 0);
        noText("1", 0);
        noText("lake20", 4);
        noText("lake  20", 5);
        noText("lake 20 ", 7);
        noText("lake x", 5);
        noText("freeze 0,5 -5", 8);
        noText("freeze 0 5,-5", 10);
        noText("freeze 0 5  -5", 11);
        noText("window 1:2", 8);
        noText("window 1-2-3", 10);
        noText("x lake 20 y", 0);
    }

    private static void errorInALaterCommand() {
        Cases.quote(0, FIRST_WRONG);
        noText("lake 20;x", 8);
        noText("lake 20;air 1;pass x", 19);
        noText("lake 20;air 1;pass 1;y;z", 21);
        noText("air 1;air 2;air 3;air 4;air 5;air 6;air 7;air 8;air 9;air ~0", 58);
    }

    private static void everyCharacterContinues() {
        Cases.quote(0, ALL_CONTINUE);
        for (String text : new String[] {"l", "lake", "lake ", "freeze 0", "freeze 0 5", "freeze 0 5 ", "freeze 0 5 -", "air",
            "air -", "pass ", "window 10", "window 10-", "open ", "strike ", "strike 0", "lake 20;", "lake 20;st"}) {
            noText(text, text.length());
        }
    }

    private static void emptyText() {
        Cases.quote(0, ALL_CONTINUE);
        noText("", 0);
    }

    /** The form alone says what can continue a text, not the 60 characters of the buffer. */
    private static void fullTextThatGoesOn() {
        Cases.quote(0, ALL_CONTINUE);
        noText("air 1;air 2;air 3;air 4;air 5;air 6;air 7;air 8;air 9;air 0;", 60);
        noText("air 1;air 2;air 3;air 4;air 5;air 6;air 7;air 8;air 10;strik", 60);
    }

    private static void keywordsCharacterByCharacter() {
        Cases.quote(0, "Keywords are matched character by character.");
        noText("lbke 20", 1);
        noText("lakx 20", 3);
        noText("fr", 2);
        noText("freezx", 5);
        noText("freeze_", 6);
        noText("aix 1", 2);
        noText("air1", 3);
        noText("pasx 1", 3);
        noText("passs 1", 4);
        noText("windox 1-2", 5);
        noText("opex 0", 3);
        noText("strikx 00", 5);
        noText("sTrike 00", 1);
    }

    private static IceBells fullLandscape() {
        IceBells x = Cases.lakes(100, 100, 100, 100, 100);
        for (int i = 0; i < 8; i++) {
            x.freeze(0, 1, -30);
        }
        for (int i = 0; i < 16; i++) {
            x.strike(0, i % 8);
        }
        for (int i = 1; i <= 6; i++) {
            x.addWindow(10 * i, 10 * i);
        }
        x.setAir(-11);
        return x;
    }

    private static void allOrNone() {
        Cases.quote(41, ALL_OR_NONE);
        IceBells x = Cases.ice(0, Cases.layer(10, -31));
        x.addWindow(100, 200);
        String before = Cases.landscape(x);
        fails(x, "lake 50;open 0;air -40;pass 1;strike 00;strike 09", 5, 'b');
        Cases.due("the landscape after the last of six fails", before, Cases.landscape(x));
        fails(x, "lake 19;air 7", 0, 'a');
        Cases.due("the landscape after the first of two fails", before, Cases.landscape(x));
        noText(x, "air 7;pass 1;x", 13);
        Cases.due("the landscape after what is no command text", before, Cases.landscape(x));
        runs(x, "lake 50;open 0;air -40;pass 1;strike 00", 5);
        Cases.due("the landscape after five commands",
                "air -40, hour 1, frozen 10, thawed 0, cracks 1, windows , peals s0:40@1 c0:40@1, lake 400 1 10/-30/0 lake 50 0 ",
                Cases.landscape(x));
    }

    private static void allOrNoneInAFullLandscape() {
        Cases.quote(41, ALL_OR_NONE);
        String before = Cases.landscape(fullLandscape());
        IceBells x = fullLandscape();
        fails(x, "open 5;window 1-2;strike 00;air 20;pass 48;lake 20", 5, 's');
        Cases.due("the landscape", before, Cases.landscape(x));
        IceBells y = fullLandscape();
        fails(y, "strike 00;pass 48;pass 48;pass 48;open 0;freeze 0 1 0", 5, 's');
        Cases.due("the landscape", before, Cases.landscape(y));
    }

    private static void textIsEmptyAfterwards() {
        Cases.quote(41, "The command text is empty after the call, also if an exception is thrown.");
        IceBells x = new IceBells();
        runs(x, "air 5", 1);
        Cases.due("append('x') after commands", 1, x.append('x'));
        Cases.thrown("run() of \"x\"", Checks.ARGUMENT, () -> x.run());
        Cases.due("append('a') after what is no command text", 1, x.append('a'));
        Checks.type(x, "ir 99");
        Cases.thrown("run() of \"air 99\"", Checks.STATE, () -> x.run());
        Cases.due("append('l') after a failed command", 1, x.append('l'));
        Cases.thrown("run() of \"l\"", Checks.ARGUMENT, () -> x.run());
        Cases.thrown("run() of the empty text", Checks.ARGUMENT, () -> x.run());
        Cases.due("errorPosition() of the empty text", 0, x.errorPosition());
    }

    private static void firstFailedCommand() {
        Cases.quote(41, "The first command whose method would throw an exception is the failed command.");
        IceBells x = new IceBells();
        fails(x, "air 5;pass 0;lake 1;open 0", 1, 'a');
        // What a command would answer depends on the ones before it.
        fails(x, "pass 5;window 5-6", 1, 's');
        fails(x, "lake 20;freeze 0 10 -1;strike 00;pass 1;strike 00", 4, 'u');
        fails(x, "window 1-2;open 0;open 0", 2, 'b');
        runs(x, "pass 5;window 6-6;open 0;window 6-6", 4);
    }

    private static void noCommandText() {
        Cases.quote(41, "Throws `IllegalArgumentException` if the text is not a command text; the error position is "
                + "set and the failed command is left as it is");
        IceBells x = new IceBells();
        noText(x, "air", 3);
        Cases.thrown("failedCommand()", Checks.NO_ELEMENT, () -> x.failedCommand());
        fails(x, "air 1;air 99", 1, 'a');
        // The first of these commands would fail, but the text is no command text.
        noText(x, "open 0;lake", 11);
        Cases.due("failedCommand()", 1, x.failedCommand());
        Cases.due("failureKind()", 'a', x.failureKind());
    }

    private static void commandThatFails() {
        Cases.quote(41, "Throws `IllegalStateException` if a command fails; the failed command is set and the error "
                + "position is left as it is");
        IceBells x = new IceBells();
        fails(x, "open 0", 0, 'b');
        Cases.thrown("errorPosition()", Checks.NO_ELEMENT, () -> x.errorPosition());
        noText(x, "air", 3);
        fails(x, "air 99", 0, 'a');
        Cases.due("errorPosition()", 3, x.errorPosition());
    }

    private static void errorPositionSetLast() {
        Cases.quote(42, "Returns the error position that was set last.");
        IceBells x = new IceBells();
        noText(x, "lake x", 5);
        noText(x, "x", 0);
        noText(x, "pass 1;pass", 11);
        runs(x, "pass 1", 1);
        Cases.due("errorPosition() after a run without error", 11, x.errorPosition());
        noText(x, "", 0);
    }

    private static void noErrorPosition() {
        Cases.quote(42, "Throws `NoSuchElementException` if no error position was set");
        IceBells x = new IceBells();
        Cases.thrown("errorPosition() of a new object", Checks.NO_ELEMENT, () -> x.errorPosition());
        x.append('x');
        Cases.thrown("errorPosition() before run()", Checks.NO_ELEMENT, () -> x.errorPosition());
        IceBells y = new IceBells();
        runs(y, "air 1", 1);
        Cases.thrown("errorPosition() after a run without error", Checks.NO_ELEMENT, () -> y.errorPosition());
    }

    private static void failedCommandOfTheLatestRun() {
        Cases.quote(43, "Returns the index of the failed command of the latest run in which a command failed.");
        IceBells x = new IceBells();
        fails(x, "air 1;air 2;air 99", 2, 'a');
        runs(x, "air 1;air 2;air 3", 3);
        Cases.due("failedCommand() after a run in which none failed", 2, x.failedCommand());
        fails(x, "air 1;open 0", 1, 'b');
        fails(x, "air 1;air 2;air 3;air 4;air 5;air 6;air 7;air 8;air 9;air 21", 9, 'a');
    }

    private static void failedCommandFromZero() {
        Cases.quote(43, "Returns the index, from 0.");
        fails(new IceBells(), "open 0", 0, 'b');
        fails(new IceBells(), "air 1;open 0", 1, 'b');
    }

    private static void noFailedCommand() {
        Cases.quote(43, "Throws `NoSuchElementException` if no command has failed");
        IceBells x = new IceBells();
        Cases.thrown("failedCommand() of a new object", Checks.NO_ELEMENT, () -> x.failedCommand());
        runs(x, "air 1", 1);
        Cases.thrown("failedCommand() after a run", Checks.NO_ELEMENT, () -> x.failedCommand());
        // A call that is no command fails, too, but it is no failed command.
        Cases.thrown("setAir(99)", Checks.ARGUMENT, () -> x.setAir(99));
        Cases.thrown("failedCommand() after a failed call", Checks.NO_ELEMENT, () -> x.failedCommand());
    }

    private static void kindOfTheLatestRun() {
        Cases.quote(44, "Returns the kind of the exception because of which the failed command of the latest run "
                + "with a failed command failed.");
        IceBells x = new IceBells();
        fails(x, "open 0", 0, 'b');
        fails(x, "air 99", 0, 'a');
        runs(x, "air 1", 1);
        Cases.due("failureKind() after a run in which none failed", 'a', x.failureKind());
        noText(x, "x", 0);
        Cases.due("failureKind() after what is no command text", 'a', x.failureKind());
        fails(x, "window 0-1", 0, 's');
    }

    private static void everyKind() {
        Cases.quote(44, "Returns 'b' for an index out of bounds, 'a' for an illegal argument, 's' for an illegal "
                + "state, 'u' for an unsupported operation.");
        IceBells x = new IceBells();
        fails(x, "lake 19", 0, 'a');
        fails(x, "lake 401", 0, 'a');
        fails(x, "freeze 0 5 -5", 0, 'b');
        fails(x, "air -41", 0, 'a');
        fails(x, "air 21", 0, 'a');
        fails(x, "pass 0", 0, 'a');
        fails(x, "pass 49", 0, 'a');
        fails(x, "window 5-4", 0, 'a');
        fails(x, "window 0-4", 0, 's');
        fails(x, "window 1-4;window 4-9", 1, 'u');
        fails(x, "open 0", 0, 'b');
        fails(x, "strike 00", 0, 'b');
        runs(x, "lake 20;lake 20", 2);
        fails(x, "lake 20;lake 20;lake 20;lake 20", 3, 's');
        fails(x, "freeze 0 0 -5", 0, 'a');
        fails(x, "freeze 0 51 -5", 0, 'a');
        fails(x, "freeze 0 5 1", 0, 'a');
        fails(x, "freeze 0 5 -41", 0, 'a');
        fails(x, "freeze 0 11 -5", 0, 'u');
        fails(x, "freeze 0 5 0;strike 00", 1, 'u');
        fails(x, "freeze 0 5 0;strike 01", 1, 'b');
        fails(x, "freeze 0 5 0;strike 10", 1, 'b');
        IceBells y = fullLandscape();
        fails(y, "lake 20", 0, 's');
        fails(y, "freeze 0 1 0", 0, 's');
        fails(y, "window 99-99", 0, 's');
    }

    private static void noFailureKind() {
        Cases.quote(44, "Throws `NoSuchElementException` if no command has failed");
        IceBells x = new IceBells();
        Cases.thrown("failureKind() of a new object", Checks.NO_ELEMENT, () -> x.failureKind());
        noText(x, "x", 0);
        Cases.thrown("failureKind() after what is no command text", Checks.NO_ELEMENT, () -> x.failureKind());
        fails(x, "open 0", 0, 'b');
    }
}
