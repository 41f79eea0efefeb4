/** The boundary cases of the line and the statistics: promises 45 to 49. */
final class LineEdges {
    private LineEdges() {
    }

    static void all() {
        example();
        strainOfTen();
        negativeTemperatures();
        replacedLine();
        lineWithoutIce();
        lineOfANewObject();
        missingIndexes();
        meanWithoutIce();
        meanOfTheLayers();
        shareAtTheEnds();
        invariants();
    }

    private static final String WRITTEN = "Writes a lake to the line, replacing its previous content: for each layer from "
            + "the top its thickness, \"/\", its temperature with \"-\" if it is negative, and \"!\" if its strain is at least 10, "
            + "with \" \" between two layers.";

    private static void describes(IceBells x, int lake, String due) {
        int length = x.describeLake(lake);
        Cases.due("describeLake(" + lake + ")", due.length(), length);
        Cases.due("the line", due, Checks.line(x, length));
        Cases.thrown("lineAt(" + length + ")", Checks.INDEX, () -> x.lineAt(length));
    }

    private static void example() {
        Cases.quote(45, "An example is \"5/-12 20/-3! 1/0\".");
        IceBells x = Cases.ice(0, Cases.layer(5, -15), Cases.layer(20, 0));
        // The top layer cracks in the third hour, which leaves strains of 0 and 11.
        x.pass(3);
        x.freeze(0, 1, 0);
        Cases.due("the strains", "0 11 0", Cases.strains(x));
        describes(x, 0, "5/-12 20/-3! 1/0");
    }

    private static void strainOfTen() {
        Cases.quote(45, WRITTEN);
        IceBells nine = Cases.ice(-18, Cases.layer(5, -9));
        nine.pass(1);
        Cases.due("the strains", "9", Cases.strains(nine));
        describes(nine, 0, "5/-9");
        IceBells ten = Cases.ice(-20, Cases.layer(5, -10));
        ten.pass(1);
        Cases.due("the strains", "10", Cases.strains(ten));
        describes(ten, 0, "5/-10!");
        IceBells eleven = Cases.ice(-22, Cases.layer(5, -11));
        eleven.pass(1);
        describes(eleven, 0, "5/-11!");
    }

    private static void negativeTemperatures() {
        Cases.quote(45, WRITTEN);
        IceBells x = Cases.ice(0, Cases.layer(1, 0), Cases.layer(9, -1), Cases.layer(10, -10), Cases.layer(50, -40));
        describes(x, 0, "1/0 9/-1 10/-10 50/-40");
        IceBells single = Cases.ice(0, Cases.layer(50, 0));
        describes(single, 0, "50/0");
    }

    private static void replacedLine() {
        Cases.quote(45, WRITTEN);
        IceBells x = Cases.ice(0, Cases.layer(5, -15), Cases.layer(20, -3));
        x.addLake(100);
        x.freeze(1, 7, -8);
        describes(x, 0, "5/-15 20/-3");
        describes(x, 1, "7/-8");
        describes(x, 0, "5/-15 20/-3");
    }

    private static void lineWithoutIce() {
        Cases.quote(45, "The line is empty without ice.");
        IceBells x = Cases.ice(0, Cases.layer(5, -15));
        x.addLake(100);
        describes(x, 0, "5/-15");
        describes(x, 1, "");
        Cases.thrown("lineAt(0)", Checks.INDEX, () -> x.lineAt(0));
        x.freeze(1, 1, 0);
        x.setAir(1);
        describes(x, 1, "1/0");
        x.pass(1);
        describes(x, 1, "");
    }

    private static void lineOfANewObject() {
        Cases.quote(46, "The line is initially empty.");
        IceBells x = Cases.ice(0, Cases.layer(5, -15));
        for (int index : new int[] {0, 1, -1, Integer.MIN_VALUE, Integer.MAX_VALUE}) {
            Cases.thrown("lineAt(" + index + ")", Checks.INDEX, () -> x.lineAt(index));
        }
    }

    private static void missingIndexes() {
        Cases.quote(46, "Throws `IndexOutOfBoundsException` if there is no such index");
        IceBells x = Cases.lakes(400);
        for (int i = 0; i < 8; i++) {
            x.freeze(0, 10 + i, -40);
        }
        // The longest line without cracks has 8 times 6 characters and 7 blanks between them.
        Cases.due("describeLake(0)", 55, x.describeLake(0));
        Cases.due("lineAt(0)", '1', x.lineAt(0));
        Cases.due("lineAt(54)", '0', x.lineAt(54));
        for (int index : new int[] {55, 56, 63, -1, Integer.MIN_VALUE, Integer.MAX_VALUE}) {
            Cases.thrown("lineAt(" + index + ")", Checks.INDEX, () -> x.lineAt(index));
        }
    }

    private static void meanWithoutIce() {
        Cases.quote(47, "Throws `ArithmeticException` if the lake has no ice");
        IceBells x = Cases.lakes(100, 100);
        Cases.thrown("meanTemperature(0)", Checks.ARITHMETIC, () -> x.meanTemperature(0));
        x.freeze(1, 1, 0);
        Cases.thrown("meanTemperature(0) beside a lake with ice", Checks.ARITHMETIC, () -> x.meanTemperature(0));
        Cases.due("meanTemperature(1)", 0.0, x.meanTemperature(1));
        x.setAir(1);
        x.pass(1);
        Cases.thrown("meanTemperature(1) that has thawed", Checks.ARITHMETIC, () -> x.meanTemperature(1));
    }

    private static void meanOfTheLayers() {
        Cases.quote(47, "Returns the mean temperature of the layers of a lake: the sum divided by the number of "
                + "layers, both converted to double.");
        IceBells x = Cases.ice(0, Cases.layer(50, -40), Cases.layer(1, -1));
        Cases.due("meanTemperature(0) of 2", -20.5, x.meanTemperature(0));
        x.freeze(0, 1, 0);
        Cases.due("meanTemperature(0) of 3", -41.0 / 3.0, x.meanTemperature(0));
        IceBells full = Cases.lakes(400);
        for (int i = 0; i < 8; i++) {
            full.freeze(0, 1, -40);
        }
        Cases.due("meanTemperature(0) of 8", -40.0, full.meanTemperature(0));
        IceBells thawed = Cases.ice(20, Cases.layer(1, 0), Cases.layer(9, -10), Cases.layer(9, -20));
        thawed.pass(1);
        // The layers that are left are at -10 and -19.
        Cases.due("meanTemperature(0) after a layer has disappeared", -14.5, thawed.meanTemperature(0));
    }

    private static void shareAtTheEnds() {
        Cases.quote(48, "Returns the share of the depth of a lake that is ice: the thickness of the ice divided by "
                + "the depth, both converted to float.");
        IceBells x = Cases.lakes(20, 399);
        Cases.due("iceShare(0) without ice", 0.0f, x.iceShare(0));
        x.freeze(0, 10, 0);
        Cases.due("iceShare(0) of half the depth", 0.5f, x.iceShare(0));
        x.freeze(1, 50, 0);
        x.freeze(1, 3, 0);
        Cases.due("iceShare(1)", 53.0f / 399.0f, x.iceShare(1));
    }

    private static void invariants() {
        Cases.quote(49, "Checks the invariants: iceThickness() equals iceThicknessByHalves() for all lakes; "
                + "echoPairs() equals echoPairsByPitch(); and frozenTotal() minus thawedTotal() is the thickness "
                + "of all ice.");
        IceBells x = new IceBells();
        Cases.due("isConsistent() without lakes", true, x.isConsistent());
        for (int i = 0; i < 5; i++) {
            x.addLake(400);
            Cases.due("isConsistent() without ice", true, x.isConsistent());
        }
        x.save();
        for (int k = 0; k < 8; k++) {
            for (int i = 0; i < 5; i++) {
                x.freeze(i, 1 + k + i, -5 * k);
            }
            if (k > 0) {
                x.strike(k % 5, k);
            }
            Cases.due("isConsistent() with " + (k + 1) + " layers", true, x.isConsistent());
            for (int i = 0; i < 5; i++) {
                Cases.due("iceThicknessByHalves(" + i + ")", x.iceThickness(i), x.iceThicknessByHalves(i));
            }
        }
        x.setAir(20);
        for (int i = 0; i < 6; i++) {
            x.pass(48);
            Cases.due("isConsistent() after hour " + x.hour(), true, x.isConsistent());
        }
        x.undo();
        Cases.due("isConsistent() after undo()", true, x.isConsistent());
        x.restore();
        Cases.due("isConsistent() after restore()", true, x.isConsistent());
    }
}
