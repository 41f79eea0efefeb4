import java.util.function.Function;

/** "Exceptions" of the terms: what a refused call leaves as it is, and which of several exceptions is thrown. */
final class RefusalEdges {
    private static final String NOTHING = "A method that throws an exception changes nothing, except that run clears the "
            + "command text and sets the error position or the failed command.";
    private static final String FIRST = "If several exceptions apply, the exception listed first is thrown.";

    private RefusalEdges() {
    }

    static void all() {
        changesOfARoomyLandscape();
        changesOfAFullLandscape();
        questionsThatAreRefused();
        refusedCharacters();
        refusedRunOfNoText();
        refusedRunOfAFailingCommand();
        depthAndFullLakes();
        lakeAndNumbersOfALayer();
        numbersAndFullIce();
        numbersAndThickIce();
        fullAndThickIce();
        lakeAndDepthBelowTheTop();
        hoursAndFullWindows();
        hoursAndPresentHour();
        hoursAndOtherWindows();
        fullWindowsAndOtherWindows();
        presentHourAndOtherWindows();
        characterAndFullText();
        noTextAndFailingCommand();
    }

    /** Two lakes with ice and one without, at hour 2, with room for more of everything, and "air " as the text. */
    private static IceBells roomy() {
        IceBells x = Edges.lakes(400, 20, 100);
        x.freeze(0, 5, -31);
        x.freeze(0, 6, 0);
        x.freeze(1, 10, -3);
        x.save();
        x.setAir(-40);
        x.addWindow(9, 12);
        x.pass(2);
        x.strike(1, 0);
        x.describeLake(0);
        Edges.thrown("run() of \"air x\"", Checks.ARGUMENT, () -> Checks.runText(x, "air x"));
        Edges.thrown("run() of \"air 1;pass 0\"", Checks.STATE, () -> Checks.runText(x, "air 1;pass 0"));
        Checks.type(x, "air ");
        return x;
    }

    /** Five lakes, one of them with eight layers, six windows and sixteen peals, and a text of 60 characters. */
    private static IceBells full() {
        IceBells x = Edges.lakes(400, 20, 100, 100, 100);
        x.save();
        for (int i = 0; i < 8; i++) {
            x.freeze(0, 1 + i, -1 - i);
        }
        for (int i = 0; i < 16; i++) {
            x.strike(0, i % 8);
        }
        x.describeLake(0);
        Edges.thrown("run() of \"air x\"", Checks.ARGUMENT, () -> Checks.runText(x, "air x"));
        Edges.thrown("run() of \"air 1;pass 0\"", Checks.STATE, () -> Checks.runText(x, "air 1;pass 0"));
        for (int i = 1; i <= 6; i++) {
            x.addWindow(10 * i, 10 * i + 5);
        }
        Checks.type(x, "air 1;air 2;air 3;air 4;air 5;air 6;air 7;air 8;air 9;air 10");
        return x;
    }

    private static String line(IceBells x, int length) {
        return Checks.line(x, length) + x.errorPosition() + x.failedCommand() + x.failureKind();
    }

    /** Compares an object that has refused a call with one that was never asked. */
    private static void same(String call, IceBells asked, IceBells other, int lineLength) {
        Edges.due("the landscape after " + call, Edges.landscape(other), Edges.landscape(asked));
        Edges.due("the line and the errors after " + call, line(other, lineLength), line(asked, lineLength));
        Edges.thrown("lineAt() behind the line after " + call, Checks.INDEX, () -> asked.lineAt(lineLength));
        Edges.due("run() of the text after " + call, other.run(), asked.run());
        Edges.due("air() of the text after " + call, other.air(), asked.air());
        for (int i = 7; i >= 0; i--) {
            Edges.due("undo() of the text and what was before it after " + call, i, asked.undo());
            other.undo();
        }
        Edges.due("the landscape after all undo()s after " + call, Edges.landscape(other), Edges.landscape(asked));
        Edges.due("restore() after " + call, other.restore(), asked.restore());
    }

    private static void refusedByRoomy(String call, Class<?> exception, Function<IceBells, Object> made) {
        IceBells x = roomy();
        Edges.thrown(call, exception, () -> made.apply(x));
        IceBells y = roomy();
        Edges.due("append('7') after " + call, y.append('7'), x.append('7'));
        same(call, x, y, "5/-29 6/-2".length());
    }

    private static void refusedByFull(String call, Class<?> exception, Function<IceBells, Object> made) {
        IceBells x = full();
        Edges.thrown(call, exception, () -> made.apply(x));
        same(call, x, full(), "1/-1 2/-2 3/-3 4/-4 5/-5 6/-6 7/-7 8/-8".length());
    }

    private static void changesOfARoomyLandscape() {
        Edges.quote(0, NOTHING);
        refusedByRoomy("addLake(19)", Checks.ARGUMENT, x -> x.addLake(19));
        refusedByRoomy("freeze(3, 5, -5)", Checks.INDEX, x -> x.freeze(3, 5, -5));
        refusedByRoomy("freeze(0, 51, -5)", Checks.ARGUMENT, x -> x.freeze(0, 51, -5));
        refusedByRoomy("freeze(0, 5, 1)", Checks.ARGUMENT, x -> x.freeze(0, 5, 1));
        refusedByRoomy("freeze(1, 1, -5)", Checks.UNSUPPORTED, x -> x.freeze(1, 1, -5));
        refusedByRoomy("setAir(-41)", Checks.ARGUMENT, x -> x.setAir(-41));
        refusedByRoomy("pass(49)", Checks.ARGUMENT, x -> x.pass(49));
        refusedByRoomy("addWindow(5, 4)", Checks.ARGUMENT, x -> x.addWindow(5, 4));
        refusedByRoomy("addWindow(2, 3)", Checks.STATE, x -> x.addWindow(2, 3));
        refusedByRoomy("addWindow(3, 9)", Checks.UNSUPPORTED, x -> x.addWindow(3, 9));
        refusedByRoomy("removeWindow(1)", Checks.INDEX, x -> x.removeWindow(1));
        refusedByRoomy("strike(0, 2)", Checks.INDEX, x -> x.strike(0, 2));
    }

    private static void changesOfAFullLandscape() {
        Edges.quote(0, NOTHING);
        refusedByFull("addLake(100)", Checks.STATE, x -> x.addLake(100));
        refusedByFull("freeze(0, 1, 0)", Checks.STATE, x -> x.freeze(0, 1, 0));
        refusedByFull("addWindow(70, 71)", Checks.STATE, x -> x.addWindow(70, 71));
        refusedByFull("removeWindow(6)", Checks.INDEX, x -> x.removeWindow(6));
        refusedByFull("strike(0, 8)", Checks.INDEX, x -> x.strike(0, 8));
        refusedByFull("append('0')", Checks.STATE, x -> x.append('0'));
    }

    private static void questionsThatAreRefused() {
        Edges.quote(0, NOTHING);
        refusedByRoomy("depth(3)", Checks.INDEX, x -> x.depth(3));
        refusedByRoomy("thickness(0, 2)", Checks.INDEX, x -> x.thickness(0, 2));
        refusedByRoomy("layerAt(0, 11)", Checks.NO_ELEMENT, x -> x.layerAt(0, 11));
        refusedByRoomy("hoursUntilThawed(0)", Checks.NO_ELEMENT, x -> x.hoursUntilThawed(0));
        refusedByRoomy("windowFirst(1)", Checks.INDEX, x -> x.windowFirst(1));
        refusedByRoomy("pitch(2, 0)", Checks.INDEX, x -> x.pitch(2, 0));
        refusedByRoomy("pealKind(9)", Checks.NO_ELEMENT, x -> x.pealKind(9));
        refusedByRoomy("lakeAtRank(3)", Checks.NO_ELEMENT, x -> x.lakeAtRank(3));
        refusedByRoomy("describeLake(3)", Checks.INDEX, x -> x.describeLake(3));
        refusedByRoomy("lineAt(99)", Checks.INDEX, x -> x.lineAt(99));
        refusedByRoomy("meanTemperature(2)", Checks.ARITHMETIC, x -> x.meanTemperature(2));
        IceBells calm = Edges.lakes(100);
        calm.freeze(0, 9, 0);
        String before = Edges.landscape(calm);
        Edges.thrown("hoursUntilCrack()", Checks.NO_ELEMENT, () -> calm.hoursUntilCrack());
        Edges.due("the landscape", before, Edges.landscape(calm));
        Edges.thrown("strike(0, 0)", Checks.UNSUPPORTED, () -> calm.strike(0, 0));
        Edges.thrown("pitch(0, 0)", Checks.UNSUPPORTED, () -> calm.pitch(0, 0));
        Edges.due("the landscape", before, Edges.landscape(calm));
        Edges.due("undo()", 1, calm.undo());
    }

    private static void refusedCharacters() {
        Edges.quote(0, NOTHING);
        refusedByRoomy("append(127)", Checks.ARGUMENT, x -> x.append((char) 127));
        refusedByRoomy("append(31)", Checks.ARGUMENT, x -> x.append((char) 31));
    }

    private static void refusedRunOfNoText() {
        Edges.quote(0, NOTHING);
        IceBells x = roomy();
        String before = Edges.landscape(x);
        Edges.thrown("run() of \"air \"", Checks.ARGUMENT, () -> x.run());
        Edges.due("the landscape", before, Edges.landscape(x));
        Edges.due("errorPosition(), which is set", 4, x.errorPosition());
        Edges.due("failedCommand()", 1, x.failedCommand());
        Edges.due("failureKind()", 'a', x.failureKind());
        Edges.due("the line", "5/-29 6/-2", Checks.line(x, 10));
        Edges.due("append('x') to the text, which is empty", 1, x.append('x'));
        Edges.thrown("run() of \"x\"", Checks.ARGUMENT, () -> x.run());
        Edges.due("errorPosition(), which is set", 0, x.errorPosition());
        Edges.due("undo()", 7, x.undo());
    }

    private static void refusedRunOfAFailingCommand() {
        Edges.quote(0, NOTHING);
        IceBells x = roomy();
        String before = Edges.landscape(x);
        Checks.type(x, "1;lake 30;pass 9;strike 00;open 7");
        Edges.thrown("run()", Checks.STATE, () -> x.run());
        Edges.due("the landscape", before, Edges.landscape(x));
        Edges.due("errorPosition()", 4, x.errorPosition());
        Edges.due("failedCommand(), which is set", 4, x.failedCommand());
        Edges.due("failureKind(), which is set", 'b', x.failureKind());
        Edges.due("the line", "5/-29 6/-2", Checks.line(x, 10));
        Edges.due("append('x') to the text, which is empty", 1, x.append('x'));
        Edges.due("undo()", 7, x.undo());
    }

    private static void depthAndFullLakes() {
        Edges.quote(0, FIRST);
        IceBells x = Edges.lakes(100, 100, 100, 100, 100);
        Edges.thrown("addLake(19) beside 5 lakes", Checks.ARGUMENT, () -> x.addLake(19));
        Edges.thrown("addLake(401) beside 5 lakes", Checks.ARGUMENT, () -> x.addLake(401));
    }

    private static void lakeAndNumbersOfALayer() {
        Edges.quote(0, FIRST);
        IceBells x = Edges.lakes(100);
        Edges.thrown("freeze(1, 0, -5)", Checks.INDEX, () -> x.freeze(1, 0, -5));
        Edges.thrown("freeze(-1, 51, -5)", Checks.INDEX, () -> x.freeze(-1, 51, -5));
        Edges.thrown("freeze(1, 5, 1)", Checks.INDEX, () -> x.freeze(1, 5, 1));
        Edges.thrown("freeze(5, 0, -41)", Checks.INDEX, () -> x.freeze(5, 0, -41));
    }

    private static IceBells eightLayers(int depth) {
        IceBells x = Edges.lakes(depth);
        for (int i = 0; i < 8; i++) {
            x.freeze(0, 1, 0);
        }
        return x;
    }

    private static void numbersAndFullIce() {
        Edges.quote(0, FIRST);
        IceBells x = eightLayers(400);
        Edges.thrown("freeze(0, 0, -5) on 8 layers", Checks.ARGUMENT, () -> x.freeze(0, 0, -5));
        Edges.thrown("freeze(0, 51, -5) on 8 layers", Checks.ARGUMENT, () -> x.freeze(0, 51, -5));
        Edges.thrown("freeze(0, 1, 1) on 8 layers", Checks.ARGUMENT, () -> x.freeze(0, 1, 1));
        Edges.thrown("freeze(0, 1, -41) on 8 layers", Checks.ARGUMENT, () -> x.freeze(0, 1, -41));
    }

    private static void numbersAndThickIce() {
        Edges.quote(0, FIRST);
        IceBells x = Edges.lakes(20);
        Edges.thrown("freeze(0, 51, -5) in 20 cm", Checks.ARGUMENT, () -> x.freeze(0, 51, -5));
        Edges.thrown("freeze(0, 11, 1) in 20 cm", Checks.ARGUMENT, () -> x.freeze(0, 11, 1));
        Edges.thrown("freeze(0, 11, -41) in 20 cm", Checks.ARGUMENT, () -> x.freeze(0, 11, -41));
    }

    private static void fullAndThickIce() {
        Edges.quote(0, FIRST);
        IceBells x = eightLayers(20);
        Edges.thrown("freeze(0, 3, 0) on 8 layers in 20 cm", Checks.STATE, () -> x.freeze(0, 3, 0));
        Edges.thrown("freeze(0, 51, 0) on 8 layers in 20 cm", Checks.ARGUMENT, () -> x.freeze(0, 51, 0));
    }

    private static void lakeAndDepthBelowTheTop() {
        Edges.quote(0, FIRST);
        IceBells x = Edges.lakes(20);
        Edges.thrown("layerAt(1, -1)", Checks.INDEX, () -> x.layerAt(1, -1));
        Edges.thrown("layerAt(-1, 99)", Checks.INDEX, () -> x.layerAt(-1, 99));
    }

    private static IceBells sixWindows() {
        IceBells x = new IceBells();
        for (int i = 1; i <= 5; i++) {
            x.addWindow(10 * i, 10 * i + 5);
        }
        x.addWindow(9999, Integer.MAX_VALUE);
        return x;
    }

    private static void hoursAndFullWindows() {
        Edges.quote(0, FIRST);
        IceBells x = sixWindows();
        Edges.thrown("addWindow(8, 7) beside 6", Checks.ARGUMENT, () -> x.addWindow(8, 7));
        Edges.thrown("addWindow(10000, 10000) beside 6", Checks.ARGUMENT, () -> x.addWindow(10000, 10000));
    }

    private static void hoursAndPresentHour() {
        Edges.quote(0, FIRST);
        IceBells x = new IceBells();
        x.pass(10);
        Edges.thrown("addWindow(10, 9) at hour 10", Checks.ARGUMENT, () -> x.addWindow(10, 9));
        Edges.thrown("addWindow(-1, -2) at hour 10", Checks.ARGUMENT, () -> x.addWindow(-1, -2));
    }

    private static void hoursAndOtherWindows() {
        Edges.quote(0, FIRST);
        IceBells x = new IceBells();
        x.addWindow(10, 20);
        x.addWindow(9999, Integer.MAX_VALUE);
        Edges.thrown("addWindow(15, 12)", Checks.ARGUMENT, () -> x.addWindow(15, 12));
        Edges.thrown("addWindow(20, 9)", Checks.ARGUMENT, () -> x.addWindow(20, 9));
        Edges.thrown("addWindow(10000, 10000)", Checks.ARGUMENT, () -> x.addWindow(10000, 10000));
    }

    private static void fullWindowsAndOtherWindows() {
        Edges.quote(0, FIRST);
        IceBells x = sixWindows();
        Edges.thrown("addWindow(10, 10) beside 6", Checks.STATE, () -> x.addWindow(10, 10));
        Edges.thrown("addWindow(1, 9999) beside 6", Checks.STATE, () -> x.addWindow(1, 9999));
    }

    private static void presentHourAndOtherWindows() {
        Edges.quote(0, FIRST);
        IceBells x = new IceBells();
        x.addWindow(2, 9);
        x.pass(3);
        Edges.thrown("addWindow(3, 12) at hour 3", Checks.STATE, () -> x.addWindow(3, 12));
        Edges.thrown("addWindow(2, 9) at hour 3", Checks.STATE, () -> x.addWindow(2, 9));
        Edges.thrown("addWindow(4, 12) at hour 3", Checks.UNSUPPORTED, () -> x.addWindow(4, 12));
    }

    private static void characterAndFullText() {
        Edges.quote(0, FIRST);
        IceBells x = new IceBells();
        for (int i = 0; i < 60; i++) {
            x.append(' ');
        }
        Edges.thrown("append(31) to 60", Checks.ARGUMENT, () -> x.append((char) 31));
        Edges.thrown("append(127) to 60", Checks.ARGUMENT, () -> x.append((char) 127));
    }

    private static void noTextAndFailingCommand() {
        Edges.quote(0, FIRST);
        IceBells x = new IceBells();
        Edges.thrown("run() of \"open 0;x\"", Checks.ARGUMENT, () -> Checks.runText(x, "open 0;x"));
        Edges.thrown("run() of \"lake 1;lake\"", Checks.ARGUMENT, () -> Checks.runText(x, "lake 1;lake"));
        Edges.thrown("failedCommand()", Checks.NO_ELEMENT, () -> x.failedCommand());
    }
}
