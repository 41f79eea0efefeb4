/** Promises 45 to 49: the line and the statistics. */
public final class LineTest {
    private static final Checks CHECKS = new Checks("LineTest");

    public static void main(String[] args) {
        emptyLine();
        lines();
        longestLine();
        strainMark();
        lineIsKept();
        means();
        shares();
        consistency();
        CHECKS.finish();
    }

    private static void describes(IceBells x, int lake, String due) {
        int length = x.describeLake(lake);
        CHECKS.due(45, "describeLake(" + lake + ")", due.length(), length);
        CHECKS.due(46, "the line", due, Checks.line(x, length));
        CHECKS.thrown(46, "lineAt(" + length + ")", Checks.INDEX, () -> x.lineAt(length));
    }

    private static void emptyLine() {
        IceBells x = new IceBells();
        for (int n : new int[] {0, 1, -1, Integer.MIN_VALUE, Integer.MAX_VALUE}) {
            CHECKS.thrown(46, "lineAt(" + n + ")", Checks.INDEX, () -> x.lineAt(n));
            CHECKS.thrown(45, "describeLake(" + n + ")", Checks.INDEX, () -> x.describeLake(n));
        }
        x.addLake(100);
        describes(x, 0, "");
    }

    private static void lines() {
        IceBells x = new IceBells();
        x.addLake(100);
        x.addLake(100);
        x.freeze(0, 5, -12);
        describes(x, 0, "5/-12");
        x.freeze(0, 20, -3);
        x.freeze(0, 1, 0);
        describes(x, 0, "5/-12 20/-3 1/0");
        x.freeze(1, 7, -8);
        describes(x, 1, "7/-8");
        describes(x, 0, "5/-12 20/-3 1/0");
        for (int n : new int[] {15, -1, Integer.MIN_VALUE, Integer.MAX_VALUE}) {
            CHECKS.thrown(46, "lineAt(" + n + ")", Checks.INDEX, () -> x.lineAt(n));
        }
    }

    private static void longestLine() {
        IceBells x = new IceBells();
        x.addLake(400);
        StringBuilder due = new StringBuilder();
        for (int i = 0; i < 8; i++) {
            x.freeze(0, 24 + i % 2, -40);
            due.append(i == 0 ? "" : " ").append(24 + i % 2).append("/-40");
        }
        describes(x, 0, due.toString());
    }

    private static void strainMark() {
        IceBells x = new IceBells();
        x.addLake(100);
        x.freeze(0, 4, -20);
        x.freeze(0, 6, -10);
        x.setAir(-40);
        x.pass(1);
        // -21 above -10 above the water: strains of 11 and 10.
        describes(x, 0, "4/-21! 6/-10!");
        IceBells y = new IceBells();
        y.addLake(100);
        y.freeze(0, 4, -19);
        y.freeze(0, 6, -10);
        y.setAir(-40);
        y.pass(1);
        // -20 above -9: strains of 11 and 9.
        describes(y, 0, "4/-20! 6/-9");
    }

    private static void lineIsKept() {
        IceBells x = new IceBells();
        x.addLake(100);
        x.freeze(0, 4, -20);
        int length = x.describeLake(0);
        x.save();
        x.pass(3);
        x.freeze(0, 4, -20);
        CHECKS.thrown(45, "describeLake(1)", Checks.INDEX, () -> x.describeLake(1));
        CHECKS.due(46, "the line after changes", "4/-20", Checks.line(x, length));
        x.undo();
        x.describeLake(0);
        x.restore();
        CHECKS.due(46, "the line is not restored", "4/-17!", Checks.line(x, 6));
        x.freeze(0, 5, -1);
        describes(x, 0, "4/-20 5/-1");
        x.undo();
        CHECKS.due(46, "the line is not undone", "4/-20 5/-1", Checks.line(x, 10));
    }

    private static void means() {
        IceBells x = new IceBells();
        CHECKS.thrown(47, "meanTemperature(0)", Checks.INDEX, () -> x.meanTemperature(0));
        x.addLake(100);
        CHECKS.thrown(47, "meanTemperature(0)", Checks.ARITHMETIC, () -> x.meanTemperature(0));
        for (int n : new int[] {1, -1, Integer.MIN_VALUE, Integer.MAX_VALUE}) {
            CHECKS.thrown(47, "meanTemperature(" + n + ")", Checks.INDEX, () -> x.meanTemperature(n));
        }
        x.freeze(0, 40, -5);
        CHECKS.due(47, "meanTemperature(0)", -5.0, x.meanTemperature(0));
        x.freeze(0, 1, -2);
        CHECKS.due(47, "meanTemperature(0)", -3.5, x.meanTemperature(0));
        x.freeze(0, 1, -3);
        CHECKS.due(47, "meanTemperature(0)", -10.0 / 3.0, x.meanTemperature(0));
        IceBells y = new IceBells();
        y.addLake(100);
        y.freeze(0, 1, 0);
        CHECKS.due(47, "meanTemperature(0)", 0.0, y.meanTemperature(0));
    }

    private static void shares() {
        IceBells x = new IceBells();
        CHECKS.thrown(48, "iceShare(0)", Checks.INDEX, () -> x.iceShare(0));
        x.addLake(300);
        for (int n : new int[] {1, -1, Integer.MIN_VALUE, Integer.MAX_VALUE}) {
            CHECKS.thrown(48, "iceShare(" + n + ")", Checks.INDEX, () -> x.iceShare(n));
        }
        CHECKS.due(48, "iceShare(0)", 0.0f, x.iceShare(0));
        x.freeze(0, 50, -5);
        CHECKS.due(48, "iceShare(0)", 50.0f / 300.0f, x.iceShare(0));
        x.freeze(0, 50, -5);
        x.freeze(0, 50, -5);
        CHECKS.due(48, "iceShare(0)", 0.5f, x.iceShare(0));
    }

    private static void consistency() {
        IceBells x = new IceBells();
        CHECKS.due(49, "isConsistent()", true, x.isConsistent());
        x.addLake(100);
        for (int i = 0; i < 8; i++) {
            x.freeze(0, 1 + i % 3, -5 * i);
            CHECKS.due(49, "isConsistent()", true, x.isConsistent());
        }
        for (int i = 0; i < 30; i++) {
            x.setAir(i % 2 == 0 ? 20 : -40);
            x.pass(1 + i);
            CHECKS.due(49, "isConsistent()", true, x.isConsistent());
        }
        x.undo();
        CHECKS.due(49, "isConsistent()", true, x.isConsistent());
    }
}
