/** Promises 19 to 24: thaw windows. */
public final class WindowsTest {
    private static final Checks CHECKS = new Checks("WindowsTest");

    public static void main(String[] args) {
        order();
        badHours();
        tooManyOrTooLate();
        overlaps();
        removal();
        missingPositions();
        membership();
        strainRests();
        stayWhenPassed();
        CHECKS.finish();
    }

    private static void order() {
        IceBells x = new IceBells();
        int[] firsts = {30, 10, 50, 20, 40, 1};
        for (int i = 0; i < firsts.length; i++) {
            CHECKS.due(21, "windowCount()", i, x.windowCount());
            CHECKS.due(19, "addWindow(" + firsts[i] + ")", i + 1, x.addWindow(firsts[i], firsts[i] + 5));
        }
        int[] due = {1, 10, 20, 30, 40, 50};
        for (int i = 0; i < due.length; i++) {
            CHECKS.due(22, "windowFirst(" + i + ")", due[i], x.windowFirst(i));
            CHECKS.due(23, "windowLast(" + i + ")", due[i] + 5, x.windowLast(i));
        }
    }

    private static void badHours() {
        IceBells x = new IceBells();
        CHECKS.thrown(19, "addWindow(5, 4)", Checks.ARGUMENT, () -> x.addWindow(5, 4));
        CHECKS.thrown(19, "addWindow(10000, 10000)", Checks.ARGUMENT, () -> x.addWindow(10000, 10000));
        CHECKS.thrown(19, "addWindow(MAX, MIN)", Checks.ARGUMENT,
                () -> x.addWindow(Integer.MAX_VALUE, Integer.MIN_VALUE));
        CHECKS.thrown(19, "addWindow(MAX, MAX)", Checks.ARGUMENT,
                () -> x.addWindow(Integer.MAX_VALUE, Integer.MAX_VALUE));
        CHECKS.thrown(19, "addWindow(0, -1)", Checks.ARGUMENT, () -> x.addWindow(0, -1));
        CHECKS.due(21, "windowCount()", 0, x.windowCount());
        CHECKS.due(19, "addWindow(9999, MAX)", 1, x.addWindow(9999, Integer.MAX_VALUE));
        CHECKS.due(19, "addWindow(7, 7)", 2, x.addWindow(7, 7));
    }

    private static void tooManyOrTooLate() {
        IceBells x = new IceBells();
        CHECKS.thrown(19, "addWindow(0, 5) at hour 0", Checks.STATE, () -> x.addWindow(0, 5));
        CHECKS.thrown(19, "addWindow(MIN, 5)", Checks.STATE, () -> x.addWindow(Integer.MIN_VALUE, 5));
        x.pass(10);
        CHECKS.thrown(19, "addWindow(10, 12) at hour 10", Checks.STATE, () -> x.addWindow(10, 12));
        CHECKS.due(19, "addWindow(11, 12) at hour 10", 1, x.addWindow(11, 12));
        CHECKS.thrown(19, "addWindow(10, 11): too late and overlapping", Checks.STATE, () -> x.addWindow(10, 11));
        for (int i = 2; i <= 6; i++) {
            x.addWindow(100 * i, 100 * i);
        }
        CHECKS.thrown(19, "seventh addWindow(50, 60)", Checks.STATE, () -> x.addWindow(50, 60));
        CHECKS.thrown(19, "seventh addWindow(11, 12)", Checks.STATE, () -> x.addWindow(11, 12));
        CHECKS.thrown(19, "seventh addWindow(60, 50)", Checks.ARGUMENT, () -> x.addWindow(60, 50));
        CHECKS.due(21, "windowCount()", 6, x.windowCount());
    }

    private static void overlaps() {
        IceBells x = new IceBells();
        x.addWindow(10, 20);
        int[][] meeting = {{5, 10}, {10, 20}, {12, 13}, {20, 25}, {5, 25}, {20, 20}, {10, 10}};
        for (int[] w : meeting) {
            CHECKS.thrown(19, "addWindow(" + w[0] + ", " + w[1] + ")", Checks.UNSUPPORTED,
                    () -> x.addWindow(w[0], w[1]));
        }
        CHECKS.due(21, "windowCount()", 1, x.windowCount());
        CHECKS.due(19, "addWindow(21, 30)", 2, x.addWindow(21, 30));
        CHECKS.due(19, "addWindow(5, 9)", 3, x.addWindow(5, 9));
    }

    private static void removal() {
        IceBells x = new IceBells();
        x.addWindow(10, 11);
        x.addWindow(20, 22);
        x.addWindow(30, 33);
        CHECKS.due(20, "removeWindow(1)", 2, x.removeWindow(1));
        CHECKS.due(22, "windowFirst(1)", 30, x.windowFirst(1));
        CHECKS.due(23, "windowLast(1)", 33, x.windowLast(1));
        CHECKS.due(24, "isInWindow(21)", false, x.isInWindow(21));
        CHECKS.due(20, "removeWindow(0)", 1, x.removeWindow(0));
        CHECKS.due(22, "windowFirst(0)", 30, x.windowFirst(0));
        CHECKS.due(20, "removeWindow(0)", 0, x.removeWindow(0));
        CHECKS.thrown(20, "removeWindow(0)", Checks.INDEX, () -> x.removeWindow(0));
    }

    private static void missingPositions() {
        IceBells x = new IceBells();
        CHECKS.thrown(22, "windowFirst(0)", Checks.INDEX, () -> x.windowFirst(0));
        x.addWindow(10, 11);
        for (int n : new int[] {1, 6, -1, Integer.MIN_VALUE, Integer.MAX_VALUE}) {
            CHECKS.thrown(20, "removeWindow(" + n + ")", Checks.INDEX, () -> x.removeWindow(n));
            CHECKS.thrown(22, "windowFirst(" + n + ")", Checks.INDEX, () -> x.windowFirst(n));
            CHECKS.thrown(23, "windowLast(" + n + ")", Checks.INDEX, () -> x.windowLast(n));
        }
        CHECKS.due(21, "windowCount()", 1, x.windowCount());
    }

    private static void membership() {
        IceBells x = new IceBells();
        CHECKS.due(24, "isInWindow(0)", false, x.isInWindow(0));
        x.addWindow(10, 12);
        x.addWindow(14, Integer.MAX_VALUE);
        int[] in = {10, 11, 12, 14, 15, 2000000000, Integer.MAX_VALUE};
        int[] out = {9, 13, 0, -11, Integer.MIN_VALUE};
        for (int hour : in) {
            CHECKS.due(24, "isInWindow(" + hour + ")", true, x.isInWindow(hour));
        }
        for (int hour : out) {
            CHECKS.due(24, "isInWindow(" + hour + ")", false, x.isInWindow(hour));
        }
    }

    private static void strainRests() {
        IceBells x = new IceBells();
        x.addLake(100);
        x.freeze(0, 10, -5);
        x.setAir(-10);
        x.addWindow(2, 3);
        int[] due = {5, 5, 5, 10, 15};
        for (int i = 0; i < due.length; i++) {
            x.pass(1);
            CHECKS.due(19, "strain(0, 0) in hour " + (i + 1), due[i], x.strain(0, 0));
        }
    }

    private static void stayWhenPassed() {
        IceBells x = new IceBells();
        x.addWindow(2, 3);
        x.pass(20);
        CHECKS.due(21, "windowCount()", 1, x.windowCount());
        CHECKS.due(24, "isInWindow(3)", true, x.isInWindow(3));
        CHECKS.due(20, "removeWindow(0)", 0, x.removeWindow(0));
    }
}
