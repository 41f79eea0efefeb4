/** The boundary cases of thaw windows: "Thaw windows" of the terms, and promises 19 to 24. */
final class WindowEdges {
    private static final String WRONG_HOURS = "Throws `IllegalArgumentException` if the first hour is greater than "
            + "the last one, or greater than 9999";
    private static final String NO_ROOM_OR_TOO_LATE = "Throws `IllegalStateException` if there are 6 windows, or "
            + "the first hour is not later than the present one";
    private static final String HOUR_IN_COMMON = "Throws `UnsupportedOperationException` if the window would have "
            + "an hour in common with another window";

    private WindowEdges() {
    }

    static void all() {
        sixWindows();
        passedWindowsStay();
        ascendingOrder();
        strainRests();
        crackInAWindow();
        windowOfOneHour();
        firstAfterLast();
        firstHourAtTheEnd();
        lastHourAtTheEnd();
        seventhWindow();
        firstHourNotLater();
        negativeHours();
        hoursInCommon();
        hoursBesideEachOther();
        positionsFromZero();
        missingPositions();
        anyHour();
    }

    private static void sixWindows() {
        Cases.quote(0, "There are at most 6 thaw windows, no two of which have an hour in common.");
        IceBells x = new IceBells();
        for (int i = 1; i <= 6; i++) {
            Cases.due("addWindow(" + i + ", " + i + ")", i, x.addWindow(i, i));
        }
        Cases.thrown("addWindow(7, 7)", Checks.STATE, () -> x.addWindow(7, 7));
        Cases.due("the windows", "1-1 2-2 3-3 4-4 5-5 6-6", Cases.windows(x));
    }

    private static void passedWindowsStay() {
        Cases.quote(0, "A window stays when its hours have passed.");
        IceBells x = new IceBells();
        for (int i = 1; i <= 6; i++) {
            x.addWindow(i, i);
        }
        x.pass(48);
        Cases.due("the windows", "1-1 2-2 3-3 4-4 5-5 6-6", Cases.windows(x));
        Cases.due("isInWindow(6)", true, x.isInWindow(6));
        Cases.thrown("addWindow(60, 61) beside 6 passed ones", Checks.STATE, () -> x.addWindow(60, 61));
    }

    private static void ascendingOrder() {
        Cases.quote(0, "The positions of the windows are in the ascending order of their first hours.");
        IceBells x = new IceBells();
        x.addWindow(30, 39);
        x.addWindow(10, 11);
        x.addWindow(50, Integer.MAX_VALUE);
        x.addWindow(20, 29);
        x.addWindow(1, 9);
        x.addWindow(40, 49);
        Cases.due("the windows", "1-9 10-11 20-29 30-39 40-49 50-2147483647", Cases.windows(x));
        x.removeWindow(2);
        Cases.due("the windows", "1-9 10-11 30-39 40-49 50-2147483647", Cases.windows(x));
        x.addWindow(12, 12);
        Cases.due("the windows", "1-9 10-11 12-12 30-39 40-49 50-2147483647", Cases.windows(x));
    }

    private static void strainRests() {
        Cases.quote(19, "Records a thaw window: a range of hours in which the strain of no layer increases.");
        IceBells x = Cases.ice(-10, Cases.layer(10, -5), Cases.layer(10, -3));
        x.addLake(100);
        x.freeze(1, 5, -6);
        x.addWindow(1, 4);
        x.pass(4);
        Cases.due("the strains of lake 0", "0 0", Cases.strains(x));
        Cases.due("strain(1, 0)", 0, x.strain(1, 0));
        x.pass(1);
        Cases.due("the strains of lake 0 after the window", "3 3", Cases.strains(x));
        Cases.due("strain(1, 0) after the window", 5, x.strain(1, 0));
    }

    /** The window stops step 2 alone: what has 30 from the hour before cracks in step 3 and pushes its neighbour. */
    private static void crackInAWindow() {
        Cases.quote(0, "Each layer with a strain of at least 30 cracks: the crack is recorded as a peal, and its "
                + "strain becomes 0.");
        IceBells x = Cases.ice(-40, Cases.layer(10, -40), Cases.layer(10, -9));
        x.pass(3);
        Cases.due("the strains", "30 0", Cases.strains(x));
        x.addWindow(4, 5);
        Cases.due("pass(1) in the window", 1, x.pass(1));
        Cases.due("the strains", "0 5", Cases.strains(x));
        Cases.due("pass(1) in the window", 0, x.pass(1));
        Cases.due("the strains", "0 5", Cases.strains(x));
    }

    private static void windowOfOneHour() {
        Cases.quote(19, WRONG_HOURS);
        IceBells x = new IceBells();
        Cases.due("addWindow(5, 5)", 1, x.addWindow(5, 5));
        Cases.due("the windows", "5-5", Cases.windows(x));
    }

    private static void firstAfterLast() {
        Cases.quote(19, WRONG_HOURS);
        IceBells x = new IceBells();
        Cases.thrown("addWindow(5, 4)", Checks.ARGUMENT, () -> x.addWindow(5, 4));
        Cases.thrown("addWindow(1, -1)", Checks.ARGUMENT, () -> x.addWindow(1, -1));
        Cases.thrown("addWindow(9999, 0)", Checks.ARGUMENT, () -> x.addWindow(9999, 0));
        Cases.thrown("addWindow(1, MIN)", Checks.ARGUMENT, () -> x.addWindow(1, Integer.MIN_VALUE));
        Cases.thrown("addWindow(-4, -5)", Checks.ARGUMENT, () -> x.addWindow(-4, -5));
        Cases.due("windowCount()", 0, x.windowCount());
    }

    private static void firstHourAtTheEnd() {
        Cases.quote(19, WRONG_HOURS);
        IceBells x = new IceBells();
        Cases.thrown("addWindow(10000, 10000)", Checks.ARGUMENT, () -> x.addWindow(10000, 10000));
        Cases.thrown("addWindow(10000, MAX)", Checks.ARGUMENT, () -> x.addWindow(10000, Integer.MAX_VALUE));
        Cases.thrown("addWindow(MAX, MAX)", Checks.ARGUMENT,
                () -> x.addWindow(Integer.MAX_VALUE, Integer.MAX_VALUE));
        Cases.due("addWindow(9999, 9999)", 1, x.addWindow(9999, 9999));
    }

    private static void lastHourAtTheEnd() {
        Cases.quote(19, WRONG_HOURS);
        IceBells x = new IceBells();
        Cases.due("addWindow(9999, MAX)", 1, x.addWindow(9999, Integer.MAX_VALUE));
        Cases.due("addWindow(1, 9998)", 2, x.addWindow(1, 9998));
        Cases.due("the windows", "1-9998 9999-2147483647", Cases.windows(x));
        IceBells y = new IceBells();
        Cases.due("addWindow(5, 10000)", 1, y.addWindow(5, 10000));
    }

    private static void seventhWindow() {
        Cases.quote(19, NO_ROOM_OR_TOO_LATE);
        IceBells x = new IceBells();
        for (int i = 1; i <= 5; i++) {
            x.addWindow(10 * i, 10 * i);
        }
        Cases.due("addWindow(60, 60) beside 5", 6, x.addWindow(60, 60));
        Cases.thrown("addWindow(70, 70) beside 6", Checks.STATE, () -> x.addWindow(70, 70));
        Cases.thrown("addWindow(5, 5) beside 6", Checks.STATE, () -> x.addWindow(5, 5));
        x.removeWindow(0);
        Cases.due("addWindow(70, 70) beside 5", 6, x.addWindow(70, 70));
    }

    private static void firstHourNotLater() {
        Cases.quote(19, NO_ROOM_OR_TOO_LATE);
        IceBells x = new IceBells();
        Cases.thrown("addWindow(0, 9) at hour 0", Checks.STATE, () -> x.addWindow(0, 9));
        Cases.due("addWindow(1, 1) at hour 0", 1, x.addWindow(1, 1));
        x.pass(48);
        Cases.thrown("addWindow(47, 60) at hour 48", Checks.STATE, () -> x.addWindow(47, 60));
        Cases.thrown("addWindow(48, 60) at hour 48", Checks.STATE, () -> x.addWindow(48, 60));
        Cases.due("addWindow(49, 60) at hour 48", 2, x.addWindow(49, 60));
    }

    private static void negativeHours() {
        Cases.quote(19, NO_ROOM_OR_TOO_LATE);
        IceBells x = new IceBells();
        Cases.thrown("addWindow(-1, 9)", Checks.STATE, () -> x.addWindow(-1, 9));
        Cases.thrown("addWindow(-5, -4)", Checks.STATE, () -> x.addWindow(-5, -4));
        Cases.thrown("addWindow(MIN, MIN)", Checks.STATE, () -> x.addWindow(Integer.MIN_VALUE, Integer.MIN_VALUE));
        Cases.thrown("addWindow(MIN, MAX)", Checks.STATE, () -> x.addWindow(Integer.MIN_VALUE, Integer.MAX_VALUE));
    }

    private static void hoursInCommon() {
        Cases.quote(19, HOUR_IN_COMMON);
        IceBells x = new IceBells();
        x.addWindow(10, 20);
        x.addWindow(30, 30);
        int[][] meeting = {{5, 10}, {20, 25}, {10, 20}, {11, 19}, {9, 21}, {15, 15}, {30, 30}, {29, 31}, {21, 30},
            {30, 9999}, {1, Integer.MAX_VALUE}};
        for (int[] w : meeting) {
            Cases.thrown("addWindow(" + w[0] + ", " + w[1] + ")", Checks.UNSUPPORTED, () -> x.addWindow(w[0], w[1]));
        }
        Cases.due("the windows", "10-20 30-30", Cases.windows(x));
    }

    private static void hoursBesideEachOther() {
        Cases.quote(19, HOUR_IN_COMMON);
        IceBells x = new IceBells();
        x.addWindow(10, 20);
        Cases.due("addWindow(21, 29)", 2, x.addWindow(21, 29));
        Cases.due("addWindow(5, 9)", 3, x.addWindow(5, 9));
        x.removeWindow(1);
        Cases.due("addWindow(10, 20) where another was removed", 3, x.addWindow(10, 20));
        Cases.due("the windows", "5-9 10-20 21-29", Cases.windows(x));
    }

    private interface OfPosition {
        int answer(IceBells x, int position);
    }

    private static IceBells threeWindows() {
        IceBells x = new IceBells();
        x.addWindow(10, 11);
        x.addWindow(20, 22);
        x.addWindow(30, 33);
        return x;
    }

    private static void positionsFromZero() {
        Cases.quote(20, "`position`: the position in the order of the first hours, from 0");
        IceBells x = threeWindows();
        Cases.due("removeWindow(0)", 2, x.removeWindow(0));
        Cases.due("the windows", "20-22 30-33", Cases.windows(x));
        Cases.due("removeWindow(1)", 1, x.removeWindow(1));
        Cases.due("the windows", "20-22", Cases.windows(x));
        Cases.due("removeWindow(0)", 0, x.removeWindow(0));
        IceBells y = threeWindows();
        Cases.quote(22, "`position`: the position in the order of the first hours, from 0");
        Cases.due("windowFirst(0)", 10, y.windowFirst(0));
        Cases.due("windowFirst(2)", 30, y.windowFirst(2));
        Cases.quote(23, "`position`: the position in the order of the first hours, from 0");
        Cases.due("windowLast(0)", 11, y.windowLast(0));
        Cases.due("windowLast(2)", 33, y.windowLast(2));
    }

    private static void missingPosition(int promise, String call, OfPosition asked) {
        Cases.quote(promise, "Throws `IndexOutOfBoundsException` if there is no such position");
        IceBells x = new IceBells();
        for (int count = 0; count <= 6; count++) {
            int next = count;
            Cases.thrown(call + "(" + next + ") of " + count, Checks.INDEX, () -> asked.answer(x, next));
            Cases.due("windowCount()", count, x.windowCount());
            if (count < 6) {
                x.addWindow(10 * (count + 1), 10 * (count + 1));
            }
        }
        for (int position : new int[] {-1, -6, 7, Integer.MIN_VALUE, Integer.MAX_VALUE}) {
            Cases.thrown(call + "(" + position + ") of 6", Checks.INDEX, () -> asked.answer(x, position));
        }
        Cases.thrown(call + "(5) of 6", null, () -> asked.answer(x, 5));
    }

    private static void missingPositions() {
        missingPosition(20, "removeWindow", (x, position) -> x.removeWindow(position));
        missingPosition(22, "windowFirst", (x, position) -> x.windowFirst(position));
        missingPosition(23, "windowLast", (x, position) -> x.windowLast(position));
    }

    private static void anyHour() {
        Cases.quote(24, "`hour`: the hour, any number");
        IceBells x = new IceBells();
        int[] outside = {0, -1, 9, 13, Integer.MIN_VALUE, Integer.MAX_VALUE};
        for (int hour : outside) {
            Cases.due("isInWindow(" + hour + ") without windows", false, x.isInWindow(hour));
        }
        x.addWindow(10, 12);
        for (int hour : outside) {
            Cases.due("isInWindow(" + hour + ") with 10-12", false, x.isInWindow(hour));
        }
        for (int hour = 10; hour <= 12; hour++) {
            Cases.due("isInWindow(" + hour + ") with 10-12", true, x.isInWindow(hour));
        }
        x.addWindow(9999, Integer.MAX_VALUE);
        Cases.due("isInWindow(9998)", false, x.isInWindow(9998));
        Cases.due("isInWindow(9999)", true, x.isInWindow(9999));
        Cases.due("isInWindow(MAX)", true, x.isInWindow(Integer.MAX_VALUE));
        Cases.due("isInWindow(MIN)", false, x.isInWindow(Integer.MIN_VALUE));
    }
}
