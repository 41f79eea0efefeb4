import java.util.regex.Matcher;
import java.util.regex.Pattern;

/** Promises 40 to 44: the command text. */
public final class CommandsTest {
    private static final Checks CHECKS = new Checks("CommandsTest");

    private static final String NUMBER = "[0-9]{1,3}";
    private static final String DEGREES = "-?" + NUMBER;
    private static final String COMMAND = "(lake " + NUMBER + "|freeze [0-9] " + NUMBER + " " + DEGREES
            + "|air " + DEGREES + "|pass " + NUMBER + "|window " + NUMBER + "-" + NUMBER
            + "|open [0-9]|strike [0-9][0-9])";
    private static final Pattern TEXT = Pattern.compile(COMMAND + "(;" + COMMAND + ")*");

    public static void main(String[] args) {
        appending();
        everyCommand();
        digits();
        numbersOfThreeDigits();
        manyCommands();
        errorPositions();
        everyReplacedCharacter();
        everyPrefix();
        allOrNothing();
        failures();
        failureSeesEarlierCommands();
        textIsClearedAlways();
        errorsAreKeptApart();
        oneChange();
        CHECKS.finish();
    }

    private static void appending() {
        IceBells x = new IceBells();
        for (char c : new char[] {31, 127, 0, '\n', 255, 65535}) {
            CHECKS.thrown(40, "append(" + (int) c + ")", Checks.ARGUMENT, () -> x.append(c));
        }
        CHECKS.due(40, "append(' ')", 1, x.append(' '));
        CHECKS.due(40, "append('~')", 2, x.append('~'));
        for (int i = 3; i <= 60; i++) {
            CHECKS.due(40, "append('a')", i, x.append('a'));
        }
        CHECKS.thrown(40, "append('a') to 60 characters", Checks.STATE, () -> x.append('a'));
        CHECKS.thrown(40, "append(31) to 60 characters", Checks.ARGUMENT, () -> x.append((char) 31));
        CHECKS.thrown(41, "run()", Checks.ARGUMENT, () -> x.run());
        CHECKS.due(40, "append('a') after run()", 1, x.append('a'));
    }

    private static void everyCommand() {
        IceBells x = new IceBells();
        CHECKS.due(41, "run() of lake", 1, Checks.runText(x, "lake 200"));
        CHECKS.due(41, "depth(0)", 200, x.depth(0));
        CHECKS.due(41, "run() of freeze", 1, Checks.runText(x, "freeze 0 12 -7"));
        CHECKS.due(41, "thickness(0, 0)", 12, x.thickness(0, 0));
        CHECKS.due(41, "temperature(0, 0)", -7, x.temperature(0, 0));
        CHECKS.due(41, "run() of freeze", 1, Checks.runText(x, "freeze 0 5 0"));
        CHECKS.due(41, "temperature(0, 1)", 0, x.temperature(0, 1));
        CHECKS.due(41, "run() of air", 1, Checks.runText(x, "air -14"));
        CHECKS.due(41, "air()", -14, x.air());
        CHECKS.due(41, "run() of air", 1, Checks.runText(x, "air 3"));
        CHECKS.due(41, "air()", 3, x.air());
        CHECKS.due(41, "run() of pass", 1, Checks.runText(x, "pass 2"));
        CHECKS.due(41, "hour()", 2, x.hour());
        CHECKS.due(41, "run() of window", 1, Checks.runText(x, "window 10-12"));
        CHECKS.due(41, "windowFirst(0)", 10, x.windowFirst(0));
        CHECKS.due(41, "windowLast(0)", 12, x.windowLast(0));
        CHECKS.due(41, "run() of open", 1, Checks.runText(x, "open 0"));
        CHECKS.due(41, "windowCount()", 0, x.windowCount());
        CHECKS.due(41, "run() of strike", 1, Checks.runText(x, "strike 00"));
        CHECKS.due(41, "pealCount()", 1, x.pealCount());
        CHECKS.due(41, "pealKind(0)", 's', x.pealKind(0));
    }

    private static void digits() {
        IceBells x = new IceBells();
        CHECKS.due(41, "run()", 3, Checks.runText(x, "lake 100;lake 100;lake 100"));
        CHECKS.due(41, "run()", 3, Checks.runText(x, "freeze 2 10 -3;freeze 2 20 -4;freeze 1 5 -1"));
        CHECKS.due(41, "layerCount(2)", 2, x.layerCount(2));
        CHECKS.due(41, "layerCount(1)", 1, x.layerCount(1));
        CHECKS.due(41, "run()", 1, Checks.runText(x, "strike 21"));
        CHECKS.due(41, "pealLake(0)", 2, x.pealLake(0));
        CHECKS.due(41, "pealPitch(0)", 9, x.pealPitch(0));
        CHECKS.due(41, "run()", 3, Checks.runText(x, "window 5-6;window 7-8;window 9-9"));
        CHECKS.due(41, "run()", 1, Checks.runText(x, "open 1"));
        CHECKS.due(41, "isInWindow(7)", false, x.isInWindow(7));
        CHECKS.due(41, "isInWindow(9)", true, x.isInWindow(9));
        CHECKS.due(41, "windowCount()", 2, x.windowCount());
        failure(x, "strike 12", 0, 'b');
        failure(x, "strike 31", 0, 'b');
        failure(x, "freeze 3 1 0", 0, 'b');
        failure(x, "open 2", 0, 'b');
    }

    private static void numbersOfThreeDigits() {
        IceBells x = new IceBells();
        CHECKS.due(41, "run()", 1, Checks.runText(x, "lake 020"));
        CHECKS.due(41, "depth(0)", 20, x.depth(0));
        CHECKS.due(41, "run()", 1, Checks.runText(x, "freeze 0 001 -007"));
        CHECKS.due(41, "temperature(0, 0)", -7, x.temperature(0, 0));
        CHECKS.due(41, "run()", 1, Checks.runText(x, "window 998-999"));
        CHECKS.due(41, "windowLast(0)", 999, x.windowLast(0));
        CHECKS.due(41, "run()", 1, Checks.runText(x, "air -0"));
        CHECKS.due(41, "air()", 0, x.air());
    }

    private static void manyCommands() {
        IceBells x = new IceBells();
        // Ten commands of five characters are the most that 60 characters hold.
        CHECKS.due(41, "run() of ten commands", 10,
                Checks.runText(x, "air 1;air 2;air 3;air 4;air 5;air 6;air 7;air 8;air 9;air 0"));
        CHECKS.due(41, "air()", 0, x.air());
        CHECKS.due(41, "run() of 60 characters", 10,
                Checks.runText(x, "air 1;air 2;air 3;air 4;air 5;air 6;air 7;air 8;air 9;air 10"));
        CHECKS.due(41, "air()", 10, x.air());
        IceBells y = new IceBells();
        CHECKS.due(41, "run()", 5, Checks.runText(y, "lake 200;freeze 0 10 -31;air -40;pass 1;strike 00"));
        CHECKS.due(41, "crackTotal()", 1, y.crackTotal());
        CHECKS.due(41, "pealCount()", 2, y.pealCount());
    }

    private static void error(String text, int position) {
        IceBells x = new IceBells();
        CHECKS.thrown(41, "run() of \"" + text + "\"", Checks.ARGUMENT, () -> Checks.runText(x, text));
        CHECKS.due(42, "errorPosition() of \"" + text + "\"", position, x.errorPosition());
        CHECKS.thrown(43, "failedCommand()", Checks.NO_ELEMENT, () -> x.failedCommand());
        CHECKS.thrown(44, "failureKind()", Checks.NO_ELEMENT, () -> x.failureKind());
    }

    private static void errorPositions() {
        error("", 0);
        error(" ", 0);
        error(";", 0);
        error("x", 0);
        error("Lake 20", 0);
        error("lake", 4);
        error("lake ", 5);
        error("lakes 20", 4);
        error("lake  20", 5);
        error("lake -20", 5);
        error("lake 1234", 8);
        error("lake 20 ", 7);
        error("lake 20;", 8);
        error("lake 20;;", 8);
        error("lake 20;x", 8);
        error("lake 20; air 1", 8);
        error("freeze 10 5 -5", 8);
        error("freeze 0  5", 9);
        error("freeze 0 -5 -5", 9);
        error("freeze 0 5 --5", 12);
        error("freeze 0 5 -", 12);
        error("freeze 0 5", 10);
        error("freeze 0 1234 5", 12);
        error("air -", 5);
        error("air +1", 4);
        error("air -1234", 8);
        error("window 10", 9);
        error("window 10-", 10);
        error("window 10 - 12", 9);
        error("window -1-2", 7);
        error("window 1--2", 9);
        error("open 12", 6);
        error("strike 0", 8);
        error("strike 0 0", 8);
        error("strike 000", 9);
        error("stroke 00", 3);
        error("pass 1,pass 1", 6);
        error("air 1;air 2;air 3;air 4;air 5;air 6;air 7;air 8;air 9;air 0;", 60);
    }

    /** The error position by the form itself: a prefix goes on if it matches, or if the match fails at its end. */
    private static int errorByForm(String text) {
        for (int length = 1; length <= text.length(); length++) {
            Matcher matcher = TEXT.matcher(text.substring(0, length));
            if (!matcher.matches() && !matcher.hitEnd()) {
                return length - 1;
            }
        }
        return text.length();
    }

    private static void asTheFormSays(String text) {
        if (!TEXT.matcher(text).matches()) {
            error(text, errorByForm(text));
            return;
        }
        IceBells x = new IceBells();
        try {
            Checks.runText(x, text);
        } catch (IllegalStateException e) {
            x.failedCommand();
        } catch (IllegalArgumentException e) {
            CHECKS.due(41, "run() of \"" + text + "\"", "no IllegalArgumentException", e.getMessage());
        }
        CHECKS.thrown(42, "errorPosition() of \"" + text + "\"", Checks.NO_ELEMENT, () -> x.errorPosition());
    }

    private static final String[] TEXTS = {
        "lake 100;freeze 0 10 -5;air -14;pass 8", "window 12-345;open 0;strike 00;lake 7",
    };

    private static void everyReplacedCharacter() {
        for (String text : TEXTS) {
            for (int i = 0; i < text.length(); i++) {
                for (char c : "lfapwos 059-;~".toCharArray()) {
                    asTheFormSays(text.substring(0, i) + c + text.substring(i + 1));
                    asTheFormSays(text.substring(0, i) + c + text.substring(i));
                }
            }
        }
    }

    private static void everyPrefix() {
        for (String text : TEXTS) {
            for (int i = 0; i <= text.length(); i++) {
                asTheFormSays(text.substring(0, i));
            }
        }
    }

    private static void allOrNothing() {
        IceBells x = new IceBells();
        x.addLake(300);
        x.freeze(0, 10, -31);
        x.addWindow(100, 200);
        CHECKS.thrown(41, "run()", Checks.STATE,
                () -> Checks.runText(x, "lake 50;open 0;air -40;pass 1;strike 00;strike 09"));
        CHECKS.due(43, "failedCommand()", 5, x.failedCommand());
        CHECKS.due(44, "failureKind()", 'b', x.failureKind());
        CHECKS.due(41, "lakeCount()", 1, x.lakeCount());
        CHECKS.due(41, "windowCount()", 1, x.windowCount());
        CHECKS.due(41, "air()", 0, x.air());
        CHECKS.due(41, "hour()", 0, x.hour());
        CHECKS.due(41, "pealCount()", 0, x.pealCount());
        CHECKS.due(41, "crackTotal()", 0, x.crackTotal());
        CHECKS.due(41, "temperature(0, 0)", -31, x.temperature(0, 0));
        CHECKS.due(50, "undo() of the three changes before", 2, x.undo());
    }

    private static void failure(IceBells x, String text, int index, char kind) {
        CHECKS.thrown(41, "run() of \"" + text + "\"", Checks.STATE, () -> Checks.runText(x, text));
        CHECKS.due(43, "failedCommand() of \"" + text + "\"", index, x.failedCommand());
        CHECKS.due(44, "failureKind() of \"" + text + "\"", kind, x.failureKind());
    }

    private static void failures() {
        IceBells x = new IceBells();
        failure(x, "lake 19", 0, 'a');
        failure(x, "lake 401", 0, 'a');
        failure(x, "lake 20;lake 20;lake 20;lake 20;lake 20;lake 20", 5, 's');
        failure(x, "freeze 0 5 -5", 0, 'b');
        failure(x, "lake 20;freeze 1 5 -5", 1, 'b');
        failure(x, "lake 20;freeze 0 0 -5", 1, 'a');
        failure(x, "lake 20;freeze 0 5 5", 1, 'a');
        failure(x, "lake 20;freeze 0 11 -5", 1, 'u');
        failure(x, "air 21", 0, 'a');
        failure(x, "air 1;air -41", 1, 'a');
        failure(x, "pass 0", 0, 'a');
        failure(x, "pass 49", 0, 'a');
        failure(x, "window 5-4", 0, 'a');
        failure(x, "window 0-4", 0, 's');
        failure(x, "window 1-4;window 4-9", 1, 'u');
        failure(x, "open 0", 0, 'b');
        failure(x, "strike 00", 0, 'b');
        failure(x, "lake 20;freeze 0 5 0;strike 01", 2, 'b');
        failure(x, "lake 20;freeze 0 5 0;strike 00", 2, 'u');
        x.addLake(400);
        for (int i = 0; i < 8; i++) {
            x.freeze(0, 1, 0);
        }
        failure(x, "freeze 0 1 0", 0, 's');
        for (int i = 1; i <= 6; i++) {
            x.addWindow(i, i);
        }
        failure(x, "window 7-7", 0, 's');
        CHECKS.due(41, "lakeCount()", 1, x.lakeCount());
    }

    private static void failureSeesEarlierCommands() {
        IceBells x = new IceBells();
        failure(x, "pass 5;window 5-6", 1, 's');
        CHECKS.due(41, "run()", 2, Checks.runText(x, "pass 5;window 6-6"));
        CHECKS.due(41, "run()", 2, Checks.runText(x, "open 0;window 6-9"));
        CHECKS.due(41, "run()", 4, Checks.runText(x, "lake 20;freeze 0 5 -1;strike 00;pass 1"));
        failure(x, "strike 00", 0, 'u');
    }

    private static void textIsClearedAlways() {
        IceBells x = new IceBells();
        Checks.runText(x, "air 5");
        CHECKS.due(41, "append after run()", 1, x.append('a'));
        CHECKS.thrown(41, "run() of \"a\"", Checks.ARGUMENT, () -> x.run());
        CHECKS.due(41, "append after a failed parse", 1, x.append('l'));
        CHECKS.thrown(41, "run() of \"lake 1\"", Checks.STATE, () -> Checks.runText(x, "ake 1"));
        CHECKS.due(41, "append after a failed command", 1, x.append('l'));
    }

    private static void errorsAreKeptApart() {
        IceBells x = new IceBells();
        CHECKS.thrown(42, "errorPosition()", Checks.NO_ELEMENT, () -> x.errorPosition());
        CHECKS.thrown(43, "failedCommand()", Checks.NO_ELEMENT, () -> x.failedCommand());
        CHECKS.thrown(44, "failureKind()", Checks.NO_ELEMENT, () -> x.failureKind());
        failure(x, "air 1;pass 0", 1, 'a');
        CHECKS.thrown(42, "errorPosition()", Checks.NO_ELEMENT, () -> x.errorPosition());
        CHECKS.thrown(41, "run()", Checks.ARGUMENT, () -> Checks.runText(x, "air x"));
        CHECKS.due(42, "errorPosition()", 4, x.errorPosition());
        CHECKS.due(43, "failedCommand() is left", 1, x.failedCommand());
        CHECKS.due(44, "failureKind() is left", 'a', x.failureKind());
        failure(x, "open 0", 0, 'b');
        CHECKS.due(42, "errorPosition() is left", 4, x.errorPosition());
        Checks.runText(x, "air 7");
        x.undo();
        x.save();
        x.restore();
        CHECKS.due(42, "errorPosition() is neither undone nor restored", 4, x.errorPosition());
        CHECKS.due(43, "failedCommand() is neither undone nor restored", 0, x.failedCommand());
        CHECKS.due(44, "failureKind() is neither undone nor restored", 'b', x.failureKind());
    }

    private static void oneChange() {
        IceBells x = new IceBells();
        Checks.runText(x, "lake 100;freeze 0 10 -5;air -14;pass 8;window 20-30");
        CHECKS.due(50, "undo()", 0, x.undo());
        CHECKS.due(50, "lakeCount()", 0, x.lakeCount());
        CHECKS.due(50, "hour()", 0, x.hour());
        CHECKS.due(50, "air()", 0, x.air());
        CHECKS.due(50, "windowCount()", 0, x.windowCount());
        CHECKS.due(50, "frozenTotal()", 0, x.frozenTotal());
    }
}
