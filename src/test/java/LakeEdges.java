/** The boundary cases of lakes and layers: "Lakes" of the terms, and promises 1 to 12. */
final class LakeEdges {
    private static final String EIGHT_LAYERS = "Throws `IllegalStateException` if the lake has 8 layers";
    private static final String LAYER = "A layer has a thickness in centimetres, a temperature in degrees, which is "
            + "never greater than 0, and a strain, which is 0 when the layer grows.";
    private static final String OUT_OF_RANGE = "Throws `IllegalArgumentException` if the thickness or the "
            + "temperature is out of range";
    private static final String THICKER_THAN_HALF = "Throws `UnsupportedOperationException` if the ice would be "
            + "thicker than half of the depth of the lake";
    private static final String NO_ICE_THERE = "Throws `NoSuchElementException` if the depth is negative or not "
            + "less than the thickness of the ice";

    private LakeEdges() {
    }

    static void all() {
        newObject();
        lakesAreNumbered();
        depthsAtTheEnds();
        depthsBeyondTheEnds();
        sixthLake();
        layersAreNumbered();
        layersBeneathMoveUp();
        placeOfADisappearedLayer();
        temperatureOfALayer();
        strainOfANewLayer();
        thicknessesAtTheEnds();
        temperaturesAtTheEnds();
        freezeInAMissingLake();
        freezeOfAThicknessOutOfRange();
        freezeOfATemperatureOutOfRange();
        ninthLayer();
        halfOfAnEvenDepth();
        halfOfAnOddDepth();
        halfOfTheGreatestDepth();
        roomAfterThawing();
        missingLakes();
        topLayers();
        missingLayers();
        depthBelowTheTop();
        depthsWithoutIce();
        depthsOfFullIce();
    }

    private static void newObject() {
        Cases.quote(1, "Creates a landscape without lakes at hour 0; the temperature of the air is 0.");
        IceBells x = new IceBells();
        Cases.due("lakeCount()", 0, x.lakeCount());
        Cases.due("hour()", 0, x.hour());
        Cases.due("air()", 0, x.air());
        Cases.due("the landscape", "air 0, hour 0, frozen 0, thawed 0, cracks 0, windows , peals , ", Cases.landscape(x));
    }

    private static void lakesAreNumbered() {
        Cases.quote(0, "There are at most 5 lakes, numbered from 0.");
        IceBells x = new IceBells();
        for (int i = 0; i < 5; i++) {
            Cases.due("addLake(" + (50 + i) + ")", i, x.addLake(50 + i));
        }
        for (int i = 0; i < 5; i++) {
            Cases.due("depth(" + i + ")", 50 + i, x.depth(i));
        }
        Cases.thrown("addLake(55)", Checks.STATE, () -> x.addLake(55));
        Cases.due("lakeCount()", 5, x.lakeCount());
    }

    private static void depthsAtTheEnds() {
        Cases.quote(2, "`depth`: the depth in centimetres, 20 to 400");
        IceBells x = new IceBells();
        Cases.due("addLake(20)", 0, x.addLake(20));
        Cases.due("depth(0)", 20, x.depth(0));
        Cases.due("addLake(400)", 1, x.addLake(400));
        Cases.due("depth(1)", 400, x.depth(1));
    }

    private static void depthsBeyondTheEnds() {
        Cases.quote(2, "Throws `IllegalArgumentException` if the depth is not from 20 to 400");
        IceBells x = new IceBells();
        for (int depth : new int[] {19, 401, 0, -1, -20, -400, Integer.MIN_VALUE, Integer.MAX_VALUE}) {
            Cases.thrown("addLake(" + depth + ")", Checks.ARGUMENT, () -> x.addLake(depth));
        }
        Cases.due("lakeCount()", 0, x.lakeCount());
    }

    private static void sixthLake() {
        Cases.quote(2, "Throws `IllegalStateException` if there are 5 lakes");
        IceBells x = Cases.lakes(100, 100, 100, 100);
        Cases.due("addLake(400) beside 4 lakes", 4, x.addLake(400));
        Cases.thrown("addLake(20) beside 5 lakes", Checks.STATE, () -> x.addLake(20));
        Cases.thrown("addLake(400) beside 5 lakes", Checks.STATE, () -> x.addLake(400));
        x.undo();
        Cases.due("addLake(30) beside 4 lakes again", 4, x.addLake(30));
    }

    private static void layersAreNumbered() {
        Cases.quote(0, "The ice of a lake consists of at most 8 layers, numbered from 0, the top one, downwards.");
        IceBells x = Cases.lakes(400);
        for (int i = 0; i < 8; i++) {
            Cases.due("freeze(0, " + (10 + i) + ", 0)", i + 1, x.freeze(0, 10 + i, 0));
        }
        Cases.due("the thicknesses", "10 11 12 13 14 15 16 17", Cases.thicknesses(x));
        Cases.thrown("freeze(0, 1, 0)", Checks.STATE, () -> x.freeze(0, 1, 0));
        Cases.due("layerCount(0)", 8, x.layerCount(0));
    }

    private static void layersBeneathMoveUp() {
        Cases.quote(0, "When a layer disappears, the numbers of the layers beneath it decrease by 1.");
        IceBells x = Cases.ice(20, Cases.layer(1, 0), Cases.layer(2, -6), Cases.layer(3, -12), Cases.layer(4, -9),
                Cases.layer(5, -2), Cases.layer(6, -1), Cases.layer(7, -20), Cases.layer(8, -4));
        x.pass(1);
        // The targets are 7, -6, -7, -7, -5, -11, -2 and -10.
        Cases.due("the thicknesses", "2 3 4 5 6 7 8", Cases.thicknesses(x));
        Cases.due("the temperatures", "-6 -11 -8 -3 -2 -19 -5", Cases.temperatures(x));
        Cases.due("the strains", "5 3 5 1 17 14 5", Cases.strains(x));
        Cases.thrown("thickness(0, 7)", Checks.INDEX, () -> x.thickness(0, 7));
    }

    private static void placeOfADisappearedLayer() {
        Cases.quote(3, EIGHT_LAYERS);
        IceBells x = Cases.lakes(400);
        for (int i = 0; i < 8; i++) {
            x.freeze(0, 1 + i, 0);
        }
        x.setAir(1);
        x.pass(1);
        Cases.due("freeze(0, 9, -3) on 7 layers", 8, x.freeze(0, 9, -3));
        Cases.due("the thicknesses", "2 3 4 5 6 7 8 9", Cases.thicknesses(x));
        Cases.thrown("freeze(0, 9, -3) on 8 layers", Checks.STATE, () -> x.freeze(0, 9, -3));
    }

    private static void temperatureOfALayer() {
        Cases.quote(0, LAYER);
        IceBells x = Cases.ice(20, Cases.layer(50, -2), Cases.layer(50, -1), Cases.layer(50, 0));
        for (int i = 0; i < 10; i++) {
            x.pass(1);
            for (int k = 0; k < 3; k++) {
                Cases.due("temperature(0, " + k + ") is greater than 0", false, x.temperature(0, k) > 0);
            }
        }
        Cases.due("the temperatures", "0 0 0", Cases.temperatures(x));
    }

    /** The layer takes the place of one that had a strain, so that a strain left there would show. */
    private static void strainOfANewLayer() {
        Cases.quote(0, LAYER);
        IceBells x = Cases.ice(20, Cases.layer(1, 0), Cases.layer(9, -21));
        x.pass(1);
        Cases.due("the strains", "20", Cases.strains(x));
        x.freeze(0, 8, -40);
        Cases.due("the strains", "20 0", Cases.strains(x));
        x.undo();
        x.undo();
        Cases.due("the strains", "0 0", Cases.strains(x));
    }

    private static void thicknessesAtTheEnds() {
        Cases.quote(3, "`thickness`: the thickness in centimetres, 1 to 50");
        IceBells x = Cases.lakes(400);
        Cases.due("freeze(0, 1, -5)", 1, x.freeze(0, 1, -5));
        Cases.due("freeze(0, 50, -5)", 2, x.freeze(0, 50, -5));
        Cases.due("the thicknesses", "1 50", Cases.thicknesses(x));
    }

    private static void temperaturesAtTheEnds() {
        Cases.quote(3, "`temperature`: the temperature in degrees, -40 to 0");
        IceBells x = Cases.lakes(400);
        Cases.due("freeze(0, 5, -40)", 1, x.freeze(0, 5, -40));
        Cases.due("freeze(0, 5, 0)", 2, x.freeze(0, 5, 0));
        Cases.due("the temperatures", "-40 0", Cases.temperatures(x));
    }

    private static void freezeInAMissingLake() {
        Cases.quote(3, "Throws `IndexOutOfBoundsException` if there is no such lake");
        IceBells none = new IceBells();
        Cases.thrown("freeze(0, 5, -5) without lakes", Checks.INDEX, () -> none.freeze(0, 5, -5));
        IceBells x = Cases.lakes(100, 100, 100, 100, 100);
        Cases.due("freeze(4, 5, -5)", 1, x.freeze(4, 5, -5));
        for (int lake : new int[] {5, -1, Integer.MIN_VALUE, Integer.MAX_VALUE}) {
            Cases.thrown("freeze(" + lake + ", 5, -5)", Checks.INDEX, () -> x.freeze(lake, 5, -5));
        }
    }

    private static void freezeOfAThicknessOutOfRange() {
        Cases.quote(3, OUT_OF_RANGE);
        IceBells x = Cases.lakes(400);
        for (int thickness : new int[] {0, 51, -1, -50, Integer.MIN_VALUE, Integer.MAX_VALUE}) {
            Cases.thrown("freeze(0, " + thickness + ", -5)", Checks.ARGUMENT, () -> x.freeze(0, thickness, -5));
        }
        Cases.due("layerCount(0)", 0, x.layerCount(0));
    }

    private static void freezeOfATemperatureOutOfRange() {
        Cases.quote(3, OUT_OF_RANGE);
        IceBells x = Cases.lakes(400);
        for (int degrees : new int[] {-41, 1, 40, Integer.MIN_VALUE, Integer.MAX_VALUE}) {
            Cases.thrown("freeze(0, 5, " + degrees + ")", Checks.ARGUMENT, () -> x.freeze(0, 5, degrees));
        }
        Cases.due("layerCount(0)", 0, x.layerCount(0));
    }

    private static void ninthLayer() {
        Cases.quote(3, EIGHT_LAYERS);
        IceBells x = Cases.lakes(400, 400);
        for (int i = 1; i <= 8; i++) {
            Cases.due("freeze(0, 1, 0)", i, x.freeze(0, 1, 0));
        }
        Cases.thrown("freeze(0, 1, 0) on 8 layers", Checks.STATE, () -> x.freeze(0, 1, 0));
        Cases.due("freeze(1, 1, 0) beside the full lake", 1, x.freeze(1, 1, 0));
    }

    private static void halfOfAnEvenDepth() {
        Cases.quote(3, THICKER_THAN_HALF);
        IceBells x = Cases.lakes(20);
        Cases.thrown("freeze(0, 11, 0) in 20 cm", Checks.UNSUPPORTED, () -> x.freeze(0, 11, 0));
        Cases.due("freeze(0, 9, 0) in 20 cm", 1, x.freeze(0, 9, 0));
        Cases.thrown("freeze(0, 2, 0) beneath 9 cm", Checks.UNSUPPORTED, () -> x.freeze(0, 2, 0));
        Cases.due("freeze(0, 1, 0) beneath 9 cm", 2, x.freeze(0, 1, 0));
        Cases.thrown("freeze(0, 1, 0) beneath 10 cm", Checks.UNSUPPORTED, () -> x.freeze(0, 1, 0));
    }

    private static void halfOfAnOddDepth() {
        Cases.quote(3, THICKER_THAN_HALF);
        IceBells x = Cases.lakes(21);
        // Half of 21 is 10.5.
        Cases.thrown("freeze(0, 11, 0) in 21 cm", Checks.UNSUPPORTED, () -> x.freeze(0, 11, 0));
        Cases.due("freeze(0, 10, 0) in 21 cm", 1, x.freeze(0, 10, 0));
    }

    private static void halfOfTheGreatestDepth() {
        Cases.quote(3, THICKER_THAN_HALF);
        IceBells x = Cases.lakes(400);
        for (int i = 1; i <= 4; i++) {
            Cases.due("freeze(0, 50, 0) in 400 cm", i, x.freeze(0, 50, 0));
        }
        Cases.thrown("freeze(0, 1, 0) beneath 200 cm", Checks.UNSUPPORTED, () -> x.freeze(0, 1, 0));
        Cases.due("iceThickness(0)", 200, x.iceThickness(0));
    }

    private static void roomAfterThawing() {
        Cases.quote(3, THICKER_THAN_HALF);
        IceBells x = Cases.lakes(20);
        x.freeze(0, 10, 0);
        x.setAir(1);
        x.pass(1);
        Cases.thrown("freeze(0, 2, 0) beneath 9 cm", Checks.UNSUPPORTED, () -> x.freeze(0, 2, 0));
        Cases.due("freeze(0, 1, 0) beneath 9 cm", 2, x.freeze(0, 1, 0));
    }

    private interface OfLake {
        Object answer(IceBells x, int lake);
    }

    static void missingLake(int promise, String call, OfLake asked) {
        Cases.quote(promise, "Throws `IndexOutOfBoundsException` if there is no such lake");
        IceBells none = new IceBells();
        Cases.thrown(call + "(0) without lakes", Checks.INDEX, () -> asked.answer(none, 0));
        IceBells x = Cases.lakes(100, 100, 100, 100);
        x.setAir(20);
        for (int i = 0; i < 4; i++) {
            x.freeze(i, 5, -5);
        }
        Cases.thrown(call + "(4) with 4 lakes", Checks.INDEX, () -> asked.answer(x, 4));
        x.addLake(100);
        x.freeze(4, 5, -5);
        Cases.thrown(call + "(4) with 5 lakes", null, () -> asked.answer(x, 4));
        Cases.thrown(call + "(0) with 5 lakes", null, () -> asked.answer(x, 0));
        for (int lake : new int[] {5, -1, -5, Integer.MIN_VALUE, Integer.MAX_VALUE}) {
            Cases.thrown(call + "(" + lake + ") with 5 lakes", Checks.INDEX, () -> asked.answer(x, lake));
        }
        x.undo();
        x.undo();
        Cases.thrown(call + "(4) when the lake is undone", Checks.INDEX, () -> asked.answer(x, 4));
    }

    private static void missingLakes() {
        missingLake(5, "depth", (x, lake) -> x.depth(lake));
        missingLake(6, "layerCount", (x, lake) -> x.layerCount(lake));
        missingLake(10, "iceThickness", (x, lake) -> x.iceThickness(lake));
        missingLake(11, "iceThicknessByHalves", (x, lake) -> x.iceThicknessByHalves(lake));
        missingLake(12, "layerAt 0 in", (x, lake) -> x.layerAt(lake, 0));
        missingLake(35, "cracksOf", (x, lake) -> x.cracksOf(lake));
        missingLake(45, "describeLake", (x, lake) -> x.describeLake(lake));
        missingLake(47, "meanTemperature", (x, lake) -> x.meanTemperature(lake));
        missingLake(48, "iceShare", (x, lake) -> x.iceShare(lake));
        missingLake(18, "hoursUntilThawed", (x, lake) -> x.hoursUntilThawed(lake));
    }

    private interface OfLayer {
        int answer(IceBells x, int lake, int layer);
    }

    private static void topLayer(int promise, String call, OfLayer asked, int top, int lowest) {
        Cases.quote(promise, "`layer`: the layer of the lake, 0 for the top one");
        IceBells x = Cases.ice(-40, Cases.layer(4, -20), Cases.layer(20, -10));
        x.pass(1);
        Cases.due(call + "(0, 0)", top, asked.answer(x, 0, 0));
        Cases.due(call + "(0, 1)", lowest, asked.answer(x, 0, 1));
    }

    private static void topLayers() {
        topLayer(7, "thickness", (x, lake, layer) -> x.thickness(lake, layer), 4, 20);
        topLayer(8, "temperature", (x, lake, layer) -> x.temperature(lake, layer), -21, -10);
        topLayer(9, "strain", (x, lake, layer) -> x.strain(lake, layer), 11, 10);
        topLayer(25, "strike", (x, lake, layer) -> x.strike(lake, layer), 25 + 21, 5 + 10);
        topLayer(26, "pitch", (x, lake, layer) -> x.pitch(lake, layer), 25 + 21, 5 + 10);
    }

    private static void missingLayer(int promise, String call, OfLayer asked) {
        Cases.quote(promise, "Throws `IndexOutOfBoundsException` if there is no such lake or layer");
        IceBells none = new IceBells();
        Cases.thrown(call + "(0, 0) without lakes", Checks.INDEX, () -> asked.answer(none, 0, 0));
        IceBells x = Cases.lakes(400, 400);
        Cases.thrown(call + "(0, 0) without ice", Checks.INDEX, () -> asked.answer(x, 0, 0));
        x.freeze(0, 1, -1);
        Cases.thrown(call + "(1, 0) beside a lake with ice", Checks.INDEX, () -> asked.answer(x, 1, 0));
        Cases.thrown(call + "(2, 0) with 2 lakes", Checks.INDEX, () -> asked.answer(x, 2, 0));
        for (int layers = 1; layers <= 8; layers++) {
            int last = layers - 1;
            int next = layers;
            Cases.thrown(call + "(0, " + last + ") of " + layers + " layers", null, () -> asked.answer(x, 0, last));
            Cases.thrown(call + "(0, " + next + ") of " + layers + " layers", Checks.INDEX,
                    () -> asked.answer(x, 0, next));
            if (layers < 8) {
                x.freeze(0, 2, -20);
            }
        }
        for (int n : new int[] {-1, -8, Integer.MIN_VALUE, Integer.MAX_VALUE}) {
            Cases.thrown(call + "(0, " + n + ")", Checks.INDEX, () -> asked.answer(x, 0, n));
            Cases.thrown(call + "(" + n + ", 0)", Checks.INDEX, () -> asked.answer(x, n, 0));
        }
    }

    private static void missingLayers() {
        missingLayer(7, "thickness", (x, lake, layer) -> x.thickness(lake, layer));
        missingLayer(8, "temperature", (x, lake, layer) -> x.temperature(lake, layer));
        missingLayer(9, "strain", (x, lake, layer) -> x.strain(lake, layer));
        missingLayer(25, "strike", (x, lake, layer) -> x.strike(lake, layer));
        missingLayer(26, "pitch", (x, lake, layer) -> x.pitch(lake, layer));
    }

    private static void depthBelowTheTop() {
        Cases.quote(12, "`centimetres`: the depth, from 0");
        IceBells x = Cases.ice(0, Cases.layer(3, 0), Cases.layer(1, 0), Cases.layer(2, 0));
        int[] due = {0, 0, 0, 1, 2, 2};
        for (int depth = 0; depth < due.length; depth++) {
            Cases.due("layerAt(0, " + depth + ")", due[depth], x.layerAt(0, depth));
        }
    }

    private static void depthsWithoutIce() {
        Cases.quote(12, NO_ICE_THERE);
        IceBells bare = Cases.lakes(100);
        Cases.thrown("layerAt(0, 0) without ice", Checks.NO_ELEMENT, () -> bare.layerAt(0, 0));
        IceBells x = Cases.ice(1, Cases.layer(3, 0), Cases.layer(4, 0));
        Cases.due("layerAt(0, 6) of 7 cm", 1, x.layerAt(0, 6));
        for (int depth : new int[] {7, 8, -1, Integer.MIN_VALUE, Integer.MAX_VALUE}) {
            Cases.thrown("layerAt(0, " + depth + ") of 7 cm", Checks.NO_ELEMENT, () -> x.layerAt(0, depth));
        }
        x.pass(1);
        Cases.thrown("layerAt(0, 6) of 6 cm", Checks.NO_ELEMENT, () -> x.layerAt(0, 6));
        x.pass(2);
        Cases.due("layerAt(0, 3) of 4 cm", 0, x.layerAt(0, 3));
        // The 4 cm that are left have moved up: they must not be counted where they were before, too.
        Cases.thrown("layerAt(0, 4) of 4 cm", Checks.NO_ELEMENT, () -> x.layerAt(0, 4));
    }

    private static void depthsOfFullIce() {
        Cases.quote(12, NO_ICE_THERE);
        IceBells x = Cases.lakes(400);
        for (int i = 0; i < 8; i++) {
            x.freeze(0, 25, 0);
        }
        Cases.due("layerAt(0, 24) of 200 cm", 0, x.layerAt(0, 24));
        Cases.due("layerAt(0, 25) of 200 cm", 1, x.layerAt(0, 25));
        Cases.due("layerAt(0, 174) of 200 cm", 6, x.layerAt(0, 174));
        Cases.due("layerAt(0, 175) of 200 cm", 7, x.layerAt(0, 175));
        Cases.due("layerAt(0, 199) of 200 cm", 7, x.layerAt(0, 199));
        Cases.thrown("layerAt(0, 200) of 200 cm", Checks.NO_ELEMENT, () -> x.layerAt(0, 200));
    }
}
