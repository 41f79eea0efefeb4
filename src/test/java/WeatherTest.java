/** Promises 13 to 18, and the four steps of an hour. */
public final class WeatherTest {
    private static final Checks CHECKS = new Checks("WeatherTest");

    public static void main(String[] args) {
        airRange();
        passRange();
        targetsRoundTowardsZero();
        targetsAreThoseAtTheBeginning();
        noLayerGetsWarmerThanMelting();
        strainOfDifferences();
        crackAtThirty();
        cascadeDownwards();
        noCascadeUpwards();
        topThins();
        thinLayerDisappears();
        lakesInOrder();
        untilCrack();
        untilCrackWithin96();
        untilThawed();
        untilThawedWithin96();
        lookingAheadChangesNothing();
        CHECKS.finish();
    }

    private static IceBells lakeOf(int air, int[]... layers) {
        IceBells x = new IceBells();
        x.addLake(400);
        for (int[] layer : layers) {
            x.freeze(0, layer[0], layer[1]);
        }
        x.setAir(air);
        return x;
    }

    private static int[] layer(int thickness, int temperature) {
        return new int[] {thickness, temperature};
    }

    private static void airRange() {
        IceBells x = new IceBells();
        CHECKS.due(13, "setAir(-40)", 0, x.setAir(-40));
        CHECKS.due(14, "air()", -40, x.air());
        CHECKS.due(13, "setAir(20)", -40, x.setAir(20));
        CHECKS.due(14, "air()", 20, x.air());
        for (int degrees : new int[] {-41, 21, Integer.MIN_VALUE, Integer.MAX_VALUE}) {
            CHECKS.thrown(13, "setAir(" + degrees + ")", Checks.ARGUMENT, () -> x.setAir(degrees));
        }
        CHECKS.due(14, "air()", 20, x.air());
    }

    private static void passRange() {
        IceBells x = new IceBells();
        CHECKS.due(15, "pass(1)", 0, x.pass(1));
        CHECKS.due(16, "hour()", 1, x.hour());
        CHECKS.due(15, "pass(48)", 0, x.pass(48));
        CHECKS.due(16, "hour()", 49, x.hour());
        for (int hours : new int[] {0, 49, -1, Integer.MIN_VALUE, Integer.MAX_VALUE}) {
            CHECKS.thrown(15, "pass(" + hours + ")", Checks.ARGUMENT, () -> x.pass(hours));
        }
        CHECKS.due(16, "hour()", 49, x.hour());
    }

    private static void temperatureAfterOneHour(int air, int start, int due) {
        IceBells x = lakeOf(air, layer(5, start));
        x.pass(1);
        CHECKS.due(15, start + " under air of " + air + " after an hour", due, x.temperature(0, 0));
    }

    private static void targetsRoundTowardsZero() {
        temperatureAfterOneHour(-1, 0, 0);
        temperatureAfterOneHour(-2, 0, -1);
        temperatureAfterOneHour(-3, -1, -1);
        temperatureAfterOneHour(-3, -2, -1);
        temperatureAfterOneHour(0, -1, 0);
        temperatureAfterOneHour(-40, -20, -20);
        temperatureAfterOneHour(-40, -19, -20);
        temperatureAfterOneHour(-40, -21, -20);
    }

    private static void targetsAreThoseAtTheBeginning() {
        IceBells x = lakeOf(-40, layer(5, -1), layer(5, 0));
        x.pass(1);
        CHECKS.due(15, "temperature(0, 0)", -2, x.temperature(0, 0));
        // The target is (-1 + 0) / 2 = 0; from the new -2 it would be -1.
        CHECKS.due(15, "temperature(0, 1)", 0, x.temperature(0, 1));
        x.pass(1);
        CHECKS.due(15, "temperature(0, 1)", -1, x.temperature(0, 1));
    }

    private static void noLayerGetsWarmerThanMelting() {
        temperatureAfterOneHour(20, 0, 0);
        temperatureAfterOneHour(20, -1, 0);
        IceBells x = lakeOf(20, layer(50, -3), layer(50, 0));
        x.pass(10);
        CHECKS.due(15, "temperature(0, 0)", 0, x.temperature(0, 0));
        CHECKS.due(15, "temperature(0, 1)", 0, x.temperature(0, 1));
    }

    private static void strainOfDifferences() {
        IceBells x = lakeOf(-20, layer(5, -10), layer(5, -20), layer(5, -6));
        x.pass(1);
        // Targets -20, -8, -10: the layers are at -11, -19, -7 after step 1.
        CHECKS.due(15, "strain(0, 0)", 8, x.strain(0, 0));
        CHECKS.due(15, "strain(0, 1)", 12, x.strain(0, 1));
        CHECKS.due(15, "strain(0, 2)", 7, x.strain(0, 2));
    }

    private static void crackAtThirty() {
        IceBells x = lakeOf(-40, layer(5, -31));
        CHECKS.due(15, "pass(1) with a strain of 30", 1, x.pass(1));
        CHECKS.due(15, "strain(0, 0)", 0, x.strain(0, 0));
        IceBells y = lakeOf(-40, layer(5, -30));
        CHECKS.due(15, "pass(1) with a strain of 29", 0, y.pass(1));
        CHECKS.due(15, "strain(0, 0)", 29, y.strain(0, 0));
        CHECKS.due(15, "pass(1)", 1, y.pass(1));
        IceBells z = lakeOf(-40, layer(10, -40), layer(10, -1), layer(10, 0));
        CHECKS.due(15, "pass(1) with a neighbour", 1, z.pass(1));
        // -39, -2 and 0 after step 1.
        CHECKS.due(15, "strain(0, 0)", 0, z.strain(0, 0));
        CHECKS.due(15, "strain(0, 1)", 2 + 5, z.strain(0, 1));
        CHECKS.due(15, "strain(0, 2) of no neighbour", 0, z.strain(0, 2));
    }

    /** The middle layer has 25 by itself, and 5 from the layer above it, which cracks in the same hour. */
    private static void cascadeDownwards() {
        IceBells x = lakeOf(-40, layer(10, -40), layer(10, -24));
        x.pass(1);
        CHECKS.due(15, "strain(0, 0)", 16, x.strain(0, 0));
        CHECKS.due(15, "strain(0, 1)", 23, x.strain(0, 1));
        x.freeze(0, 10, -23);
        // After step 1 -38, -24 and -22, after step 2 strains of 30, 25 and 22.
        CHECKS.due(15, "pass(1)", 2, x.pass(1));
        CHECKS.due(15, "strain(0, 0)", 5, x.strain(0, 0));
        CHECKS.due(15, "strain(0, 1)", 0, x.strain(0, 1));
        CHECKS.due(15, "strain(0, 2)", 27, x.strain(0, 2));
        CHECKS.due(30, "pealPitch(1)", 10 + 38, x.pealPitch(1));
        CHECKS.due(30, "pealPitch(0)", 10 + 24, x.pealPitch(0));
    }

    /** The upper layer gets 30 from the crack beneath it, but does not crack before the next hour. */
    private static void noCascadeUpwards() {
        IceBells x = lakeOf(-40, layer(10, -40), layer(10, -9));
        x.pass(2);
        CHECKS.due(15, "strain(0, 0)", 0, x.strain(0, 0));
        CHECKS.due(15, "strain(0, 1)", 26, x.strain(0, 1));
        // After step 1 -37 and -12, after step 2 strains of 25 and 38.
        CHECKS.due(15, "pass(1)", 1, x.pass(1));
        CHECKS.due(15, "strain(0, 0)", 30, x.strain(0, 0));
        CHECKS.due(15, "strain(0, 1)", 0, x.strain(0, 1));
        x.addWindow(4, 4);
        // The window stops step 2 alone: the layer has its 30 and cracks in step 3, which pushes its neighbour.
        CHECKS.due(15, "pass(1) in a window", 1, x.pass(1));
        CHECKS.due(15, "strain(0, 0)", 0, x.strain(0, 0));
        CHECKS.due(15, "strain(0, 1)", 5, x.strain(0, 1));
    }

    private static void topThins() {
        IceBells x = lakeOf(1, layer(3, 0), layer(4, 0));
        x.pass(1);
        CHECKS.due(15, "thickness(0, 0)", 2, x.thickness(0, 0));
        CHECKS.due(15, "thickness(0, 1)", 4, x.thickness(0, 1));
        IceBells cold = lakeOf(0, layer(3, 0));
        cold.pass(1);
        CHECKS.due(15, "thickness(0, 0) under air of 0", 3, cold.thickness(0, 0));
        IceBells warming = lakeOf(20, layer(3, -2));
        warming.pass(1);
        CHECKS.due(15, "thickness(0, 0) at -1", 3, warming.thickness(0, 0));
        // The layer reaches 0 in step 1 and thins in step 4 of the same hour.
        warming.pass(1);
        CHECKS.due(15, "thickness(0, 0) at 0", 2, warming.thickness(0, 0));
    }

    private static void thinLayerDisappears() {
        IceBells x = lakeOf(20, layer(1, 0), layer(7, -9), layer(8, 0));
        x.pass(1);
        CHECKS.due(15, "layerCount(0)", 2, x.layerCount(0));
        CHECKS.due(15, "thickness(0, 0)", 7, x.thickness(0, 0));
        CHECKS.due(15, "temperature(0, 0)", -8, x.temperature(0, 0));
        // In step 2 this layer was at -8 above one at -1.
        CHECKS.due(15, "strain(0, 0)", 7, x.strain(0, 0));
        CHECKS.due(15, "thickness(0, 1)", 8, x.thickness(0, 1));
        CHECKS.due(15, "strain(0, 1)", 1, x.strain(0, 1));
        CHECKS.thrown(15, "thickness(0, 2)", Checks.INDEX, () -> x.thickness(0, 2));
        CHECKS.thrown(12, "layerAt(0, 15)", Checks.NO_ELEMENT, () -> x.layerAt(0, 15));
        CHECKS.due(47, "meanTemperature(0)", -4.5, x.meanTemperature(0));
        CHECKS.due(38, "thawedTotal()", 1, x.thawedTotal());
        IceBells y = lakeOf(20, layer(1, 0));
        y.pass(1);
        CHECKS.due(15, "layerCount(0)", 0, y.layerCount(0));
        y.pass(2);
        CHECKS.due(38, "thawedTotal()", 1, y.thawedTotal());
    }

    private static void lakesInOrder() {
        IceBells x = new IceBells();
        for (int i = 0; i < 3; i++) {
            x.addLake(100);
        }
        x.freeze(2, 10, -40);
        x.freeze(0, 20, -40);
        x.setAir(-40);
        CHECKS.due(15, "pass(1)", 2, x.pass(1));
        CHECKS.due(29, "pealLake(0)", 2, x.pealLake(0));
        CHECKS.due(29, "pealLake(1)", 0, x.pealLake(1));
    }

    private static void untilCrack() {
        IceBells x = new IceBells();
        CHECKS.thrown(17, "hoursUntilCrack() without ice", Checks.NO_ELEMENT, () -> x.hoursUntilCrack());
        IceBells y = lakeOf(-10, layer(10, -5));
        // 5 an hour: 30 after six hours.
        CHECKS.due(17, "hoursUntilCrack()", 6, y.hoursUntilCrack());
        y.pass(5);
        CHECKS.due(17, "hoursUntilCrack()", 1, y.hoursUntilCrack());
        y.addWindow(6, 8);
        CHECKS.due(17, "hoursUntilCrack()", 4, y.hoursUntilCrack());
        y.addLake(100);
        y.freeze(1, 5, -32);
        CHECKS.due(17, "hoursUntilCrack() of another lake", 4, y.hoursUntilCrack());
        y.removeWindow(0);
        y.pass(1);
        CHECKS.due(17, "hoursUntilCrack() of another lake", 1, y.hoursUntilCrack());
    }

    private static void untilCrackWithin96() {
        IceBells x = lakeOf(-10, layer(10, -5));
        x.addWindow(1, 90);
        CHECKS.due(17, "hoursUntilCrack()", 96, x.hoursUntilCrack());
        x.removeWindow(0);
        x.addWindow(1, 91);
        CHECKS.thrown(17, "hoursUntilCrack()", Checks.NO_ELEMENT, () -> x.hoursUntilCrack());
        x.pass(1);
        CHECKS.due(17, "hoursUntilCrack()", 96, x.hoursUntilCrack());
    }

    private static void untilThawed() {
        IceBells x = new IceBells();
        x.addLake(100);
        CHECKS.due(18, "hoursUntilThawed(0) without ice", 0, x.hoursUntilThawed(0));
        for (int n : new int[] {1, -1, 5, Integer.MIN_VALUE, Integer.MAX_VALUE}) {
            CHECKS.thrown(18, "hoursUntilThawed(" + n + ")", Checks.INDEX, () -> x.hoursUntilThawed(n));
        }
        x.freeze(0, 5, -2);
        CHECKS.thrown(18, "hoursUntilThawed(0) under air of 0", Checks.NO_ELEMENT, () -> x.hoursUntilThawed(0));
        x.setAir(20);
        // -1 after one hour, 0 after two, when the first centimetre thaws.
        CHECKS.due(18, "hoursUntilThawed(0)", 6, x.hoursUntilThawed(0));
    }

    private static void untilThawedWithin96() {
        IceBells x = lakeOf(20, layer(48, 0), layer(48, 0));
        CHECKS.due(18, "hoursUntilThawed(0) with 96 cm", 96, x.hoursUntilThawed(0));
        x.freeze(0, 1, 0);
        CHECKS.thrown(18, "hoursUntilThawed(0) with 97 cm", Checks.NO_ELEMENT, () -> x.hoursUntilThawed(0));
    }

    private static void lookingAheadChangesNothing() {
        IceBells x = lakeOf(20, layer(5, -35));
        x.hoursUntilCrack();
        x.hoursUntilThawed(0);
        CHECKS.due(17, "hour()", 0, x.hour());
        CHECKS.due(17, "temperature(0, 0)", -35, x.temperature(0, 0));
        CHECKS.due(17, "strain(0, 0)", 0, x.strain(0, 0));
        CHECKS.due(17, "pealCount()", 0, x.pealCount());
        CHECKS.due(17, "crackTotal()", 0, x.crackTotal());
        CHECKS.due(18, "thickness(0, 0)", 5, x.thickness(0, 0));
        CHECKS.due(18, "thawedTotal()", 0, x.thawedTotal());
    }
}
