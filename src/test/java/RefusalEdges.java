import java.util.function.Function;

/** "Exceptions" of the terms: what a refused call leaves as it is, and which of several exceptions is thrown. */
final class RefusalEdges {
    private static final String NOTHING = "A method that throws an exception changes nothing, except that run clears the "
            + "command text and sets the error position or the failed command.";
    private static final String FIRST = "If several exceptions apply, the exception listed first is thrown.";

    private RefusalEdges() {
    }

    static void all() {
        changesOfARoomyLandscape();
        changesOfAFullLandscape();
        questionsThatAreRefused();
        refusedCharacters();
        refusedRunOfNoText();
        refusedRunOfAFailingCommand();
        depthAndFullLakes();
        lakeAndNumbersOfALayer();
        numbersAndFullIce();
        numbersAndThickIce();
        fullAndThickIce();
        lakeAndDepthBelowTheTop();
        hoursAndFullWindows();
        hoursAndPresentHour();
        hoursAndOtherWindows();
        fullWindowsAndOtherWindows();
        presentHourAndOtherWindows();
        characterAndFullText();
        noTextAndFailingCommand();
    }

    /** Two lakes with ice and one without, at hour 2, with room for more of everything, and "air " as the text. */
    private static IceBells roomy() {
        IceBells x = Cases.lakes(400, 20, 100);
        x.freeze(0, 5, -31);
        x.freeze(0, 6, 0);
        x.freeze(1, 10, -3);
        x.save();
        x.setAir(-40);
        x.addWindow(9, 12);
        x.pass(2);
        x.strike(1, 0);
        x.describeLake(0);
        Cases.thrown("run() of \"air x\"", Checks.ARGUMENT, () -> Checks.runText(x, "air x"));
        Cases.thrown("run() of \"air 1;pass 0\"", Checks.STATE, () -> Checks.runText(x, "air 1;pass 0"));
        Checks.type(x, "air ");
        return x;
    }

    /** Five lakes, one of them with eight layers, six windows and sixteen peals, and a text of 60 characters. */
    private static IceBells full() {
        IceBells x = Cases.lakes(400, 20, 100, 100, 100);
        x.save();
        for (int i = 0; i < 8; i++) {
            x.freeze(0, 1 + i, -1 - i);
        }
        for (int i = 0; i < 16; i++) {
            x.strike(0, i % 8);
        }
        x.describeLake(0);
        Cases.thrown("run() of \"air x\"", Checks.ARGUMENT, () -> Checks.runText(x, "air x"));
        Cases.thrown("run() of \"air 1;pass 0\"", Checks.STATE, () -> Checks.runText(x, "air 1;pass 0"));
        for (int i = 1; i <= 6; i++) {
            x.addWindow(10 * i, 10 * i + 5);
        }
        Checks.type(x, "air 1;air 2;air 3;air 4;air 5;air 6;air 7;air 8;air 9;air 10");
        return x;
    }

    private static String line(IceBells x, int length) {
        return Checks.line(x, length) + x.errorPosition() + x.failedCommand() + x.failureKind();
    }

    /** Compares an object that has refused a call with one that was never asked. */
    private static void same(String call, IceBells asked, IceBells other, int lineLength) {
        Cases.due("the landscape after " + call, Cases.landscape(other), Cases.landscape(asked));
        Cases.due("the line and the errors after " + call, line(other, lineLength), line(asked, lineLength));
        Cases.thrown("lineAt() behind the line after " + call, Checks.INDEX, () -> asked.lineAt(lineLength));
        Cases.due("run() of the text after " + call, other.run(), asked.run());
        Cases.due("air() of the text after " + call, other.air(), asked.air());
        for (int i = 7; i >= 0; i--) {
            Cases.due("undo() of the text and what was before it after " + call, i, asked.undo());
            other.undo();
        }
        Cases.due("the landscape after all undo()s after " + call, Cases.landscape(other), Cases.landscape(asked));
        Cases.due("restore() after " + call, other.restore(), asked.restore());
    }

    private static void refusedByRoomy(String call, Class<?> exception, Function<IceBells, Object> made) {
        IceBells x = roomy();
        Cases.thrown(call, exception, () -> made.apply(x));
        IceBells y = roomy();
        Cases.due("append('7') after " + call, y.append('7'), x.append('7'));
        same(call, x, y, "5/-29 6/-2".length());
    }

    private static void refusedByFull(String call, Class<?> exception, Function<IceBells, Object> made) {
        IceBells x = full();
        Cases.thrown(call, exception, () -> made.apply(x));
        same(call, x, full(), "1/-1 2/-2 3/-3 4/-4 5/-5 6/-6 7/-7 8/-8".length());
    }

    private static void changesOfARoomyLandscape() {
        Cases.quote(0, NOTHING);
        refusedByRoomy("addLake(19)", Checks.ARGUMENT, x -> x.addLake(19));
        refusedByRoomy("freeze(3, 5, -5)", Checks.INDEX, x -> x.freeze(3, 5, -5));
        refusedByRoomy("freeze(0, 51, -5)", Checks.ARGUMENT, x -> x.freeze(0, 51, -5));
        refusedByRoomy("freeze(0, 5, 1)", Checks.ARGUMENT, x -> x.freeze(0, 5, 1));
        refusedByRoomy("freeze(1, 1, -5)", Checks.UNSUPPORTED, x -> x.freeze(1, 1, -5));
        refusedByRoomy("setAir(-41)", Checks.ARGUMENT, x -> x.setAir(-41));
        refusedByRoomy("pass(49)", Checks.ARGUMENT, x -> x.pass(49));
        refusedByRoomy("addWindow(5, 4)", Checks.ARGUMENT, x -> x.addWindow(5, 4));
        refusedByRoomy("addWindow(2, 3)", Checks.STATE, x -> x.addWindow(2, 3));
        refusedByRoomy("addWindow(3, 9)", Checks.UNSUPPORTED, x -> x.addWindow(3, 9));
        refusedByRoomy("removeWindow(1)", Checks.INDEX, x -> x.removeWindow(1));
        refusedByRoomy("strike(0, 2)", Checks.INDEX, x -> x.strike(0, 2));
    }

    private static void changesOfAFullLandscape() {
        Cases.quote(0, NOTHING);
        refusedByFull("addLake(100)", Checks.STATE, x -> x.addLake(100));
        refusedByFull("freeze(0, 1, 0)", Checks.STATE, x -> x.freeze(0, 1, 0));
        refusedByFull("addWindow(70, 71)", Checks.STATE, x -> x.addWindow(70, 71));
        refusedByFull("removeWindow(6)", Checks.INDEX, x -> x.removeWindow(6));
        refusedByFull("strike(0, 8)", Checks.INDEX, x -> x.strike(0, 8));
        refusedByFull("append('0')", Checks.STATE, x -> x.append('0'));
    }

    private static void questionsThatAreRefused() {
        Cases.quote(0, NOTHING);
        refusedByRoomy("depth(3)", Checks.INDEX, x -> x.depth(3));
        refusedByRoomy("thickness(0, 2)", Checks.INDEX, x -> x.thickness(0, 2));
        refusedByRoomy("layerAt(0, 11)", Checks.NO_ELEMENT, x -> x.layerAt(0, 11));
        refusedByRoomy("hoursUntilThawed(0)", Checks.NO_ELEMENT, x -> x.hoursUntilThawed(0));
        refusedByRoomy("windowFirst(1)", Checks.INDEX, x -> x.windowFirst(1));
        refusedByRoomy("pitch(2, 0)", Checks.INDEX, x -> x.pitch(2, 0));
        refusedByRoomy("pealKind(9)", Checks.NO_ELEMENT, x -> x.pealKind(9));
        refusedByRoomy("lakeAtRank(3)", Checks.NO_ELEMENT, x -> x.lakeAtRank(3));
        refusedByRoomy("describeLake(3)", Checks.INDEX, x -> x.describeLake(3));
        refusedByRoomy("lineAt(99)", Checks.INDEX, x -> x.lineAt(99));
        refusedByRoomy("meanTemperature(2)", Checks.ARITHMETIC, x -> x.meanTemperature(2));
        IceBells calm = Cases.lakes(100);
        calm.freeze(0, 9, 0);
        String before = Cases.landscape(calm);
        Cases.thrown("hoursUntilCrack()", Checks.NO_ELEMENT, () -> calm.hoursUntilCrack());
        Cases.due("the landscape", before, Cases.landscape(calm));
        Cases.thrown("strike(0, 0)", Checks.UNSUPPORTED, () -> calm.strike(0, 0));
        Cases.thrown("pitch(0, 0)", Checks.UNSUPPORTED, () -> calm.pitch(0, 0));
        Cases.due("the landscape", before, Cases.landscape(calm));
        Cases.due("undo()", 1, calm.undo());
    }

    private static void refusedCharacters() {
        Cases.quote(0, NOTHING);
        refusedByRoomy("append(127)", Checks.ARGUMENT, x -> x.append((char) 127));
        refusedByRoomy("append(31)", Checks.ARGUMENT, x -> x.append((char) 31));
    }

    private static void refusedRunOfNoText() {
        Cases.quote(0, NOTHING);
        IceBells x = roomy();
        String before = Cases.landscape(x);
        Cases.thrown("run() of \"air \"", Checks.ARGUMENT, () -> x.run());
        Cases.due("the landscape", before, Cases.landscape(x));
        Cases.due("errorPosition(), which is set", 4, x.errorPosition());
        Cases.due("failedCommand()", 1, x.failedCommand());
        Cases.due("failureKind()", 'a', x.failureKind());
        Cases.due("the line", "5/-29 6/-2", Checks.line(x, 10));
        Cases.due("append('x') to the text, which is empty", 1, x.append('x'));
        Cases.thrown("run() of \"x\"", Checks.ARGUMENT, () -> x.run());
        Cases.due("errorPosition(), which is set", 0, x.errorPosition());
        Cases.due("undo()", 7, x.undo());
    }

    private static void refusedRunOfAFailingCommand() {
        Cases.quote(0, NOTHING);
        IceBells x = roomy();
        String before = Cases.landscape(x);
        Checks.type(x, "1;lake 30;pass 9;strike 00;open 7");
        Cases.thrown("run()", Checks.STATE, () -> x.run());
        Cases.due("the landscape", before, Cases.landscape(x));
        Cases.due("errorPosition()", 4, x.errorPosition());
        Cases.due("failedCommand(), which is set", 4, x.failedCommand());
        Cases.due("failureKind(), which is set", 'b', x.failureKind());
        Cases.due("the line", "5/-29 6/-2", Checks.line(x, 10));
        Cases.due("append('x') to the text, which is empty", 1, x.append('x'));
        Cases.due("undo()", 7, x.undo());
    }

    private static void depthAndFullLakes() {
        Cases.quote(0, FIRST);
        IceBells x = Cases.lakes(100, 100, 100, 100, 100);
        Cases.thrown("addLake(19) beside 5 lakes", Checks.ARGUMENT, () -> x.addLake(19));
        Cases.thrown("addLake(401) beside 5 lakes", Checks.ARGUMENT, () -> x.addLake(401));
    }

    private static void lakeAndNumbersOfALayer() {
        Cases.quote(0, FIRST);
        IceBells x = Cases.lakes(100);
        Cases.thrown("freeze(1, 0, -5)", Checks.INDEX, () -> x.freeze(1, 0, -5));
        Cases.thrown("freeze(-1, 51, -5)", Checks.INDEX, () -> x.freeze(-1, 51, -5));
        Cases.thrown("freeze(1, 5, 1)", Checks.INDEX, () -> x.freeze(1, 5, 1));
        Cases.thrown("freeze(5, 0, -41)", Checks.INDEX, () -> x.freeze(5, 0, -41));
    }

    private static IceBells eightLayers(int depth) {
        IceBells x = Cases.lakes(depth);
        for (int i = 0; i < 8; i++) {
            x.freeze(0, 1, 0);
        }
        return x;
    }

    private static void numbersAndFullIce() {
        Cases.quote(0, FIRST);
        IceBells x = eightLayers(400);
        Cases.thrown("freeze(0, 0, -5) on 8 layers", Checks.ARGUMENT, () -> x.freeze(0, 0, -5));
        Cases.thrown("freeze(0, 51, -5) on 8 layers", Checks.ARGUMENT, () -> x.freeze(0, 51, -5));
        Cases.thrown("freeze(0, 1, 1) on 8 layers", Checks.ARGUMENT, () -> x.freeze(0, 1, 1));
        Cases.thrown("freeze(0, 1, -41) on 8 layers", Checks.ARGUMENT, () -> x.freeze(0, 1, -41));
    }

    private static void numbersAndThickIce() {
        Cases.quote(0, FIRST);
        IceBells x = Cases.lakes(20);
        Cases.thrown("freeze(0, 51, -5) in 20 cm", Checks.ARGUMENT, () -> x.freeze(0, 51, -5));
        Cases.thrown("freeze(0, 11, 1) in 20 cm", Checks.ARGUMENT, () -> x.freeze(0, 11, 1));
        Cases.thrown("freeze(0, 11, -41) in 20 cm", Checks.ARGUMENT, () -> x.freeze(0, 11, -41));
    }

    private static void fullAndThickIce() {
        Cases.quote(0, FIRST);
        IceBells x = eightLayers(20);
        Cases.thrown("freeze(0, 3, 0) on 8 layers in 20 cm", Checks.STATE, () -> x.freeze(0, 3, 0));
        Cases.thrown("freeze(0, 51, 0) on 8 layers in 20 cm", Checks.ARGUMENT, () -> x.freeze(0, 51, 0));
    }

    private static void lakeAndDepthBelowTheTop() {
        Cases.quote(0, FIRST);
        IceBells x = Cases.lakes(20);
        Cases.thrown("layerAt(1, -1)", Checks.INDEX, () -> x.layerAt(1, -1));
        Cases.thrown("layerAt(-1, 99)", Checks.INDEX, () -> x.layerAt(-1, 99));
    }

    private static IceBells sixWindows() {
        IceBells x = new IceBells();
        for (int i = 1; i <= 5; i++) {
            x.addWindow(10 * i, 10 * i + 5);
        }
        x.addWindow(9999, Integer.MAX_VALUE);
        return x;
    }

    private static void hoursAndFullWindows() {
        Cases.quote(0, FIRST);
        IceBells x = sixWindows();
        Cases.thrown("addWindow(8, 7) beside 6", Checks.ARGUMENT, () -> x.addWindow(8, 7));
        Cases.thrown("addWindow(10000, 10000) beside 6", Checks.ARGUMENT, () -> x.addWindow(10000, 10000));
    }

    private static void hoursAndPresentHour() {
        Cases.quote(0, FIRST);
        IceBells x = new IceBells();
        x.pass(10);
        Cases.thrown("addWindow(10, 9) at hour 10", Checks.ARGUMENT, () -> x.addWindow(10, 9));
        Cases.thrown("addWindow(-1, -2) at hour 10", Checks.ARGUMENT, () -> x.addWindow(-1, -2));
    }

    private static void hoursAndOtherWindows() {
        Cases.quote(0, FIRST);
        IceBells x = new IceBells();
        x.addWindow(10, 20);
        x.addWindow(9999, Integer.MAX_VALUE);
        Cases.thrown("addWindow(15, 12)", Checks.ARGUMENT, () -> x.addWindow(15, 12));
        Cases.thrown("addWindow(20, 9)", Checks.ARGUMENT, () -> x.addWindow(20, 9));
        Cases.thrown("addWindow(10000, 10000)", Checks.ARGUMENT, () -> x.addWindow(10000, 10000));
    }

    private static void fullWindowsAndOtherWindows() {
        Cases.quote(0, FIRST);
        IceBells x = sixWindows();
        Cases.thrown("addWindow(10, 10) beside 6", Checks.STATE, () -> x.addWindow(10, 10));
        Cases.thrown("addWindow(1, 9999) beside 6", Checks.STATE, () -> x.addWindow(1, 9999));
    }

    private static void presentHourAndOtherWindows() {
        Cases.quote(0, FIRST);
        IceBells x = new IceBells();
        x.addWindow(2, 9);
        x.pass(3);
        Cases.thrown("addWindow(3, 12) at hour 3", Checks.STATE, () -> x.addWindow(3, 12));
        Cases.thrown("addWindow(2, 9) at hour 3", Checks.STATE, () -> x.addWindow(2, 9));
        Cases.thrown("addWindow(4, 12) at hour 3", Checks.UNSUPPORTED, () -> x.addWindow(4, 12));
    }

    private static void characterAndFullText() {
        Cases.quote(0, FIRST);
        IceBells x = new IceBells();
        for (int i = 0; i < 60; i++) {
            x.append(' ');
        }
        Cases.thrown("append(31) to 60", Checks.ARGUMENT, () -> x.append((char) 31));
        Cases.thrown("append(127) to 60", Checks.ARGUMENT, () -> x.append((char) 127));
    }

    private static void noTextAndFailingCommand() {
        Cases.quote(0, FIRST);
        IceBells x = new IceBells();
        Cases.thrown("run() of \"open 0;x\"", Checks.ARGUMENT, () -> Checks.runText(x, "open 0;x"));
        Cases.thrown("run() of \"lake 1;lake\"", Checks.ARGUMENT, () -> Checks.runText(x, "lake 1;lake"));
        Cases.thrown("failedCommand()", Checks.NO_ELEMENT, () -> x.failedCommand());
    }
}
