/** Promises 1 to 12: a new object, lakes and layers. */
public final class LakesTest {
    private static final Checks CHECKS = new Checks("LakesTest");

    public static void main(String[] args) {
        newObject();
        lakes();
        lakeRefusals();
        layers();
        newLayersHaveNoStrain();
        freezeRefusals();
        freezeOrderOfExceptions();
        halfOfTheDepth();
        missingLakesAndLayers();
        sums();
        layerAtDepths();
        CHECKS.finish();
    }

    private static void newObject() {
        IceBells x = new IceBells();
        CHECKS.due(1, "lakeCount()", 0, x.lakeCount());
        CHECKS.due(1, "hour()", 0, x.hour());
        CHECKS.due(1, "air()", 0, x.air());
        CHECKS.due(1, "windowCount()", 0, x.windowCount());
        CHECKS.due(1, "pealCount()", 0, x.pealCount());
        CHECKS.due(1, "frozenTotal()", 0, x.frozenTotal());
        CHECKS.due(1, "thawedTotal()", 0, x.thawedTotal());
        CHECKS.due(1, "crackTotal()", 0, x.crackTotal());
    }

    private static void lakes() {
        IceBells x = new IceBells();
        int[] depths = {20, 400, 21, 399, 123};
        for (int i = 0; i < depths.length; i++) {
            CHECKS.due(4, "lakeCount()", i, x.lakeCount());
            CHECKS.due(2, "addLake(" + depths[i] + ")", i, x.addLake(depths[i]));
        }
        CHECKS.due(4, "lakeCount()", 5, x.lakeCount());
        for (int i = 0; i < depths.length; i++) {
            CHECKS.due(5, "depth(" + i + ")", depths[i], x.depth(i));
            CHECKS.due(6, "layerCount(" + i + ")", 0, x.layerCount(i));
        }
    }

    private static void lakeRefusals() {
        IceBells x = new IceBells();
        for (int depth : new int[] {19, 401, 0, -20, Integer.MIN_VALUE, Integer.MAX_VALUE}) {
            CHECKS.thrown(2, "addLake(" + depth + ")", Checks.ARGUMENT, () -> x.addLake(depth));
        }
        CHECKS.due(4, "lakeCount()", 0, x.lakeCount());
        for (int i = 0; i < 5; i++) {
            x.addLake(100);
        }
        CHECKS.thrown(2, "sixth addLake(100)", Checks.STATE, () -> x.addLake(100));
        CHECKS.thrown(2, "sixth addLake(19)", Checks.ARGUMENT, () -> x.addLake(19));
        CHECKS.due(4, "lakeCount()", 5, x.lakeCount());
    }

    private static void layers() {
        IceBells x = new IceBells();
        x.addLake(300);
        x.addLake(300);
        CHECKS.due(3, "freeze(1, 1, -40)", 1, x.freeze(1, 1, -40));
        CHECKS.due(3, "freeze(1, 50, 0)", 2, x.freeze(1, 50, 0));
        CHECKS.due(3, "freeze(1, 7, -13)", 3, x.freeze(1, 7, -13));
        int[][] due = {{1, -40}, {50, 0}, {7, -13}};
        for (int i = 0; i < due.length; i++) {
            CHECKS.due(7, "thickness(1, " + i + ")", due[i][0], x.thickness(1, i));
            CHECKS.due(8, "temperature(1, " + i + ")", due[i][1], x.temperature(1, i));
            CHECKS.due(9, "strain(1, " + i + ")", 0, x.strain(1, i));
        }
        CHECKS.due(6, "layerCount(1)", 3, x.layerCount(1));
        CHECKS.due(6, "layerCount(0)", 0, x.layerCount(0));
        x.pass(1);
        // Now -39 above -1 cracks; -1 is above -12, and -12 above the water.
        CHECKS.due(9, "strain(1, 0)", 0, x.strain(1, 0));
        CHECKS.due(9, "strain(1, 1)", 11 + 5, x.strain(1, 1));
        CHECKS.due(9, "strain(1, 2)", 12, x.strain(1, 2));
        CHECKS.due(3, "freeze(1, 5, -5)", 4, x.freeze(1, 5, -5));
        CHECKS.due(9, "strain(1, 3) of a layer that has just grown", 0, x.strain(1, 3));
    }

    private static void newLayersHaveNoStrain() {
        IceBells x = new IceBells();
        x.addLake(100);
        x.freeze(0, 1, 0);
        x.freeze(0, 20, -20);
        x.setAir(20);
        x.pass(1);
        CHECKS.due(9, "strain(0, 0) of the layer that was beneath", 19, x.strain(0, 0));
        CHECKS.due(3, "freeze(0, 3, -3)", 2, x.freeze(0, 3, -3));
        CHECKS.due(9, "strain(0, 1)", 0, x.strain(0, 1));
    }

    private static void freezeRefusals() {
        IceBells x = new IceBells();
        x.addLake(400);
        for (int lake : Checks.FAR_OFF) {
            CHECKS.thrown(3, "freeze(" + lake + ", 5, -5)", Checks.INDEX, () -> x.freeze(lake, 5, -5));
        }
        CHECKS.thrown(3, "freeze(1, 5, -5)", Checks.INDEX, () -> x.freeze(1, 5, -5));
        for (int thickness : new int[] {0, 51, -1, Integer.MIN_VALUE, Integer.MAX_VALUE}) {
            CHECKS.thrown(3, "freeze(0, " + thickness + ", -5)", Checks.ARGUMENT, () -> x.freeze(0, thickness, -5));
        }
        for (int degrees : new int[] {1, -41, 40, Integer.MIN_VALUE, Integer.MAX_VALUE}) {
            CHECKS.thrown(3, "freeze(0, 5, " + degrees + ")", Checks.ARGUMENT, () -> x.freeze(0, 5, degrees));
        }
        for (int i = 1; i <= 8; i++) {
            CHECKS.due(3, "freeze(0, 1, 0)", i, x.freeze(0, 1, 0));
        }
        CHECKS.thrown(3, "ninth freeze(0, 1, 0)", Checks.STATE, () -> x.freeze(0, 1, 0));
        CHECKS.due(6, "layerCount(0)", 8, x.layerCount(0));
        CHECKS.due(37, "frozenTotal()", 8, x.frozenTotal());
    }

    private static void freezeOrderOfExceptions() {
        IceBells x = new IceBells();
        x.addLake(20);
        for (int i = 0; i < 8; i++) {
            x.freeze(0, 1, 0);
        }
        CHECKS.thrown(3, "freeze(1, 0, 1)", Checks.INDEX, () -> x.freeze(1, 0, 1));
        CHECKS.thrown(3, "freeze(0, 51, 0) on 8 layers", Checks.ARGUMENT, () -> x.freeze(0, 51, 0));
        CHECKS.thrown(3, "freeze(0, 50, 0) on 8 layers", Checks.STATE, () -> x.freeze(0, 50, 0));
    }

    private static void halfOfTheDepth() {
        IceBells x = new IceBells();
        x.addLake(20);
        x.addLake(21);
        CHECKS.thrown(3, "freeze(0, 11, 0)", Checks.UNSUPPORTED, () -> x.freeze(0, 11, 0));
        CHECKS.thrown(3, "freeze(1, 11, 0)", Checks.UNSUPPORTED, () -> x.freeze(1, 11, 0));
        CHECKS.due(3, "freeze(0, 10, 0)", 1, x.freeze(0, 10, 0));
        CHECKS.due(3, "freeze(1, 9, 0)", 1, x.freeze(1, 9, 0));
        CHECKS.due(3, "freeze(1, 1, 0)", 2, x.freeze(1, 1, 0));
        CHECKS.thrown(3, "freeze(1, 1, 0)", Checks.UNSUPPORTED, () -> x.freeze(1, 1, 0));
        CHECKS.due(10, "iceThickness(1)", 10, x.iceThickness(1));
    }

    private static void missingLakesAndLayers() {
        IceBells x = new IceBells();
        CHECKS.thrown(5, "depth(0)", Checks.INDEX, () -> x.depth(0));
        x.addLake(100);
        CHECKS.thrown(7, "thickness(0, 0)", Checks.INDEX, () -> x.thickness(0, 0));
        x.freeze(0, 5, -5);
        int[] others = {1, 5, -1, Integer.MIN_VALUE, Integer.MAX_VALUE};
        for (int n : others) {
            CHECKS.thrown(5, "depth(" + n + ")", Checks.INDEX, () -> x.depth(n));
            CHECKS.thrown(6, "layerCount(" + n + ")", Checks.INDEX, () -> x.layerCount(n));
            CHECKS.thrown(7, "thickness(" + n + ", 0)", Checks.INDEX, () -> x.thickness(n, 0));
            CHECKS.thrown(7, "thickness(0, " + n + ")", Checks.INDEX, () -> x.thickness(0, n));
            CHECKS.thrown(8, "temperature(" + n + ", 0)", Checks.INDEX, () -> x.temperature(n, 0));
            CHECKS.thrown(8, "temperature(0, " + n + ")", Checks.INDEX, () -> x.temperature(0, n));
            CHECKS.thrown(9, "strain(" + n + ", 0)", Checks.INDEX, () -> x.strain(n, 0));
            CHECKS.thrown(9, "strain(0, " + n + ")", Checks.INDEX, () -> x.strain(0, n));
            CHECKS.thrown(10, "iceThickness(" + n + ")", Checks.INDEX, () -> x.iceThickness(n));
            CHECKS.thrown(11, "iceThicknessByHalves(" + n + ")", Checks.INDEX, () -> x.iceThicknessByHalves(n));
            CHECKS.thrown(12, "layerAt(" + n + ", 0)", Checks.INDEX, () -> x.layerAt(n, 0));
            CHECKS.thrown(12, "layerAt(" + n + ", -1)", Checks.INDEX, () -> x.layerAt(n, -1));
        }
    }

    private static void sums() {
        IceBells x = new IceBells();
        x.addLake(400);
        CHECKS.due(10, "iceThickness(0)", 0, x.iceThickness(0));
        CHECKS.due(11, "iceThicknessByHalves(0)", 0, x.iceThicknessByHalves(0));
        int sum = 0;
        for (int thickness : new int[] {1, 50, 2, 49, 3, 40, 5, 7}) {
            x.freeze(0, thickness, -1);
            sum += thickness;
            CHECKS.due(10, "iceThickness(0)", sum, x.iceThickness(0));
            CHECKS.due(11, "iceThicknessByHalves(0)", sum, x.iceThicknessByHalves(0));
        }
    }

    private static void layerAtDepths() {
        IceBells x = new IceBells();
        x.addLake(100);
        CHECKS.thrown(12, "layerAt(0, 0)", Checks.NO_ELEMENT, () -> x.layerAt(0, 0));
        x.freeze(0, 3, 0);
        x.freeze(0, 1, 0);
        x.freeze(0, 2, 0);
        int[] due = {0, 0, 0, 1, 2, 2};
        for (int depth = 0; depth < due.length; depth++) {
            CHECKS.due(12, "layerAt(0, " + depth + ")", due[depth], x.layerAt(0, depth));
        }
        for (int depth : new int[] {6, 7, -1, Integer.MIN_VALUE, Integer.MAX_VALUE}) {
            CHECKS.thrown(12, "layerAt(0, " + depth + ")", Checks.NO_ELEMENT, () -> x.layerAt(0, depth));
        }
    }
}
