/** The boundary cases of the hours: "Hours" of the terms with their four steps, and promises 13 to 18. */
final class HourEdges {
    private static final String LAKE_BY_LAKE = "Then the following steps are carried out for each lake that has "
            + "ice, in the order of their numbers.";
    private static final String TARGET = "The target of a layer is the sum of the temperatures of what is above and "
            + "beneath it, divided by 2, rounded towards zero; the temperatures are those at the beginning of this "
            + "step.";
    private static final String DISAPPEARS = "A layer whose thickness becomes 0 disappears.";

    private HourEdges() {
    }

    static void all() {
        hourCountsFirst();
        lakesInTheOrderOfTheirNumbers();
        lakesWithoutIce();
        layersFromTheTop();
        airAboveAndWaterBeneath();
        targetRoundsTowardsZero();
        targetByTheTemperaturesBefore();
        warmerByOne();
        colderByOne();
        atTheTarget();
        notWarmerThanMelting();
        strainByTheTemperaturesAfter();
        strainOfTheLowestLayer();
        strainInAWindow();
        crackAtThirty();
        neighboursOnBothSides();
        neighboursAtTheEnds();
        neighbourThatReachesThirty();
        neighbourThatReachesTwentyNine();
        layerAboveCracksAnHourLater();
        thawingAboveZero();
        thawingAtZero();
        onlyTheTopThaws();
        layerOfNoThickness();
        lastLayer();
        airAtTheEnds();
        airBeyondTheEnds();
        hoursAtTheEnds();
        hoursBeyondTheEnds();
        cracksOfTheseHours();
        untilCrackOnACopy();
        untilCrackAtLeastOne();
        untilCrackAtTheEnd();
        untilThawedOnACopy();
        untilThawedWithoutIce();
        untilThawedAtTheEnd();
    }

    private static void hourCountsFirst() {
        Cases.quote(0, "When an hour passes, the number of hours increases by 1 first.");
        IceBells x = Cases.ice(-10, Cases.layer(10, -5));
        x.addWindow(1, 1);
        x.pass(1);
        Cases.due("hour()", 1, x.hour());
        Cases.due("the strains after hour 1", "0", Cases.strains(x));
        x.pass(1);
        Cases.due("the strains after hour 2", "5", Cases.strains(x));
        IceBells y = Cases.ice(-40, Cases.layer(10, -31));
        y.pass(1);
        Cases.due("the peals", "c0:40@1", Cases.peals(y));
    }

    private static void lakesInTheOrderOfTheirNumbers() {
        Cases.quote(0, LAKE_BY_LAKE);
        IceBells x = Cases.lakes(100, 100, 100);
        x.setAir(-40);
        x.freeze(2, 10, -40);
        x.freeze(0, 20, -40);
        x.freeze(1, 50, -40);
        Cases.due("pass(1)", 3, x.pass(1));
        Cases.due("the peals", "c2:49@1 c1:41@1 c0:44@1", Cases.peals(x));
    }

    private static void lakesWithoutIce() {
        Cases.quote(0, LAKE_BY_LAKE);
        IceBells x = Cases.lakes(100, 100, 100, 100, 100);
        x.setAir(20);
        Cases.due("pass(48) without ice", 0, x.pass(48));
        Cases.due("thawedTotal()", 0, x.thawedTotal());
        x.freeze(1, 3, 0);
        x.freeze(4, 5, 0);
        x.pass(1);
        Cases.due("thawedTotal()", 2, x.thawedTotal());
        Cases.due("iceThickness(4)", 4, x.iceThickness(4));
        for (int lake : new int[] {0, 2, 3}) {
            Cases.due("layerCount(" + lake + ")", 0, x.layerCount(lake));
        }
    }

    private static void layersFromTheTop() {
        Cases.quote(0, "The layers are visited from the top.");
        IceBells x = Cases.ice(20, Cases.layer(50, 0), Cases.layer(20, -40));
        // The strains are 38 and 39, so both crack in one hour.
        Cases.due("pass(1)", 2, x.pass(1));
        Cases.due("the peals", "c0:44@1 c0:3@1", Cases.peals(x));
    }

    private static void airAboveAndWaterBeneath() {
        Cases.quote(0, "The layer above the top layer is the air; what is beneath the lowest layer is water with "
                + "the temperature 0.");
        IceBells x = Cases.ice(-20, Cases.layer(5, -10));
        x.pass(1);
        Cases.due("the temperatures under air of -20", "-10", Cases.temperatures(x));
        x.setAir(-22);
        x.pass(1);
        Cases.due("the temperatures under air of -22", "-11", Cases.temperatures(x));
        x.setAir(-19);
        x.pass(1);
        Cases.due("the temperatures under air of -19", "-10", Cases.temperatures(x));
        IceBells y = Cases.ice(-40, Cases.layer(5, -20), Cases.layer(5, 0));
        y.pass(1);
        // The air is above the top layer alone: the target of the other one is (-20 + 0) / 2.
        Cases.due("the temperatures", "-20 -1", Cases.temperatures(y));
    }

    private static void temperatureAfterAnHour(int air, int before, int after) {
        IceBells x = Cases.ice(air, Cases.layer(5, before));
        x.pass(1);
        Cases.due("of " + before + " under air of " + air + " after an hour", after, x.temperature(0, 0));
    }

    private static void targetRoundsTowardsZero() {
        Cases.quote(0, TARGET);
        temperatureAfterAnHour(-1, 0, 0);
        temperatureAfterAnHour(-2, 0, -1);
        temperatureAfterAnHour(-3, -1, -1);
        temperatureAfterAnHour(-3, -2, -1);
        temperatureAfterAnHour(-39, -19, -19);
        temperatureAfterAnHour(1, 0, 0);
    }

    private static void targetByTheTemperaturesBefore() {
        Cases.quote(0, TARGET);
        IceBells x = Cases.ice(-40, Cases.layer(5, -1), Cases.layer(5, 0));
        x.pass(1);
        // From the new -2 above it, the lowest layer would have the target -1.
        Cases.due("the temperatures", "-2 0", Cases.temperatures(x));
        IceBells y = Cases.ice(0, Cases.layer(5, 0), Cases.layer(5, -2));
        y.pass(1);
        // From the new -1 beneath it, the top layer would have the target 0.
        Cases.due("the temperatures", "-1 -1", Cases.temperatures(y));
    }

    private static final String BY_ONE_DEGREE = "Each layer whose temperature is less than its target becomes 1 degree "
            + "warmer, and each layer whose temperature is greater than its target becomes 1 degree colder, "
            + "but no layer becomes warmer than 0 degrees.";

    private static void warmerByOne() {
        Cases.quote(0, BY_ONE_DEGREE);
        temperatureAfterAnHour(0, -40, -39);
        temperatureAfterAnHour(20, -40, -39);
        temperatureAfterAnHour(-40, -21, -20);
    }

    private static void colderByOne() {
        Cases.quote(0, BY_ONE_DEGREE);
        temperatureAfterAnHour(-40, 0, -1);
        temperatureAfterAnHour(-40, -19, -20);
    }

    private static void atTheTarget() {
        Cases.quote(0, BY_ONE_DEGREE);
        temperatureAfterAnHour(-40, -20, -20);
        temperatureAfterAnHour(0, 0, 0);
        IceBells x = Cases.ice(-12, Cases.layer(5, -8), Cases.layer(5, -4));
        x.pass(3);
        Cases.due("the temperatures", "-8 -4", Cases.temperatures(x));
    }

    private static void notWarmerThanMelting() {
        Cases.quote(0, BY_ONE_DEGREE);
        temperatureAfterAnHour(20, -1, 0);
        temperatureAfterAnHour(20, 0, 0);
        temperatureAfterAnHour(2, 0, 0);
        IceBells x = Cases.ice(20, Cases.layer(50, -3), Cases.layer(50, 0));
        x.pass(10);
        Cases.due("the temperatures", "0 0", Cases.temperatures(x));
    }

    private static final String STRAIN = "If the present hour is not in a thaw window, the strain of each layer increases "
            + "by the absolute difference of its temperature and the temperature of the layer beneath it, "
            + "or of the water for the lowest layer, both as they are after step 1.";

    private static void strainByTheTemperaturesAfter() {
        Cases.quote(0, STRAIN);
        IceBells x = Cases.ice(-20, Cases.layer(5, -10), Cases.layer(5, -20), Cases.layer(5, -6));
        x.pass(1);
        Cases.due("the temperatures", "-11 -19 -7", Cases.temperatures(x));
        Cases.due("the strains", "8 12 7", Cases.strains(x));
    }

    private static void strainOfTheLowestLayer() {
        Cases.quote(0, STRAIN);
        IceBells x = Cases.ice(-14, Cases.layer(5, -7));
        x.pass(1);
        Cases.due("the strains", "7", Cases.strains(x));
        x.pass(2);
        Cases.due("the strains", "21", Cases.strains(x));
    }

    private static void strainInAWindow() {
        Cases.quote(0, STRAIN);
        IceBells x = Cases.ice(-10, Cases.layer(10, -5));
        x.addWindow(3, 4);
        String[] due = {"5", "10", "10", "10", "15", "20"};
        for (int i = 0; i < due.length; i++) {
            x.pass(1);
            Cases.due("the strains after hour " + (i + 1) + " with a window 3-4", due[i], Cases.strains(x));
        }
    }

    private static void crackAtThirty() {
        Cases.quote(0, "Each layer with a strain of at least 30 cracks: the crack is recorded as a peal, and its "
                + "strain becomes 0.");
        IceBells below = Cases.ice(-40, Cases.layer(5, -30));
        Cases.due("pass(1) to a strain of 29", 0, below.pass(1));
        Cases.due("the strains", "29", Cases.strains(below));
        Cases.due("the peals", "", Cases.peals(below));
        IceBells at = Cases.ice(-40, Cases.layer(5, -31));
        Cases.due("pass(1) to a strain of 30", 1, at.pass(1));
        Cases.due("the strains", "0", Cases.strains(at));
        Cases.due("the peals", "c0:50@1", Cases.peals(at));
        IceBells above = Cases.ice(-40, Cases.layer(5, -40));
        Cases.due("pass(1) to a strain of 39", 1, above.pass(1));
        Cases.due("the strains", "0", Cases.strains(above));
        Cases.due("cracksOf(0)", 1, above.cracksOf(0));
    }

    private static final String NEIGHBOURS = "The strain of each neighbouring layer increases by 5; a layer beneath it that "
            + "reaches 30 by this is visited later and cracks, too, but a layer above it does not crack before the next hour.";

    private static void neighboursOnBothSides() {
        Cases.quote(0, NEIGHBOURS);
        IceBells x = Cases.ice(-40, Cases.layer(10, -40), Cases.layer(10, -38), Cases.layer(10, -40),
                Cases.layer(10, 0), Cases.layer(10, 0));
        Cases.due("pass(1)", 1, x.pass(1));
        // -39, -39, -39, -1 and 0 after step 1: strains of 0, 0, 38, 1 and 0.
        Cases.due("the strains", "0 5 0 6 0", Cases.strains(x));
    }

    private static void neighboursAtTheEnds() {
        Cases.quote(0, NEIGHBOURS);
        IceBells top = Cases.ice(-40, Cases.layer(10, -40), Cases.layer(10, -1));
        Cases.due("pass(1) with a crack of the top layer", 1, top.pass(1));
        // -39 and -2 after step 1.
        Cases.due("the strains", "0 7", Cases.strains(top));
        IceBells lowest = Cases.ice(-40, Cases.layer(10, -40), Cases.layer(10, -40));
        Cases.due("pass(1) with a crack of the lowest layer", 1, lowest.pass(1));
        Cases.due("the strains", "6 0", Cases.strains(lowest));
        Cases.due("freeze(0, 5, -3)", 3, lowest.freeze(0, 5, -3));
        Cases.due("the strains", "6 0 0", Cases.strains(lowest));
        IceBells single = Cases.ice(-40, Cases.layer(10, -40));
        Cases.due("pass(1) with a crack of the single layer", 1, single.pass(1));
        Cases.due("the strains", "0", Cases.strains(single));
    }

    /** After an hour the layers have strains of 16 and 23; the next hour brings the top layer to 30. */
    private static IceBells nearCrack(int lowest) {
        IceBells x = Cases.ice(-40, Cases.layer(10, -40), Cases.layer(10, -24));
        x.pass(1);
        Cases.due("the strains", "16 23", Cases.strains(x));
        x.freeze(0, 10, lowest);
        return x;
    }

    private static void neighbourThatReachesThirty() {
        Cases.quote(0, NEIGHBOURS);
        IceBells x = nearCrack(-23);
        // Strains of 30, 25 and 22 in step 3, then 0, 30 and 22, then 5, 0 and 27.
        Cases.due("pass(1)", 2, x.pass(1));
        Cases.due("the strains", "5 0 27", Cases.strains(x));
        Cases.due("the peals", "c0:34@2 c0:48@2", Cases.peals(x));
    }

    private static void neighbourThatReachesTwentyNine() {
        Cases.quote(0, NEIGHBOURS);
        IceBells x = nearCrack(-24);
        // Strains of 30, 24 and 23 in step 3.
        Cases.due("pass(1)", 1, x.pass(1));
        Cases.due("the strains", "0 29 23", Cases.strains(x));
    }

    private static void layerAboveCracksAnHourLater() {
        Cases.quote(0, NEIGHBOURS);
        IceBells x = Cases.ice(-40, Cases.layer(10, -40), Cases.layer(10, -9));
        x.pass(2);
        Cases.due("the strains", "0 26", Cases.strains(x));
        // Strains of 25 and 38 in step 3.
        Cases.due("pass(1)", 1, x.pass(1));
        Cases.due("the strains", "30 0", Cases.strains(x));
        Cases.due("hoursUntilCrack()", 1, x.hoursUntilCrack());
        Cases.due("pass(1)", 1, x.pass(1));
        Cases.due("the strain of the layer above", 0, x.strain(0, 0));
        Cases.due("pealHour(0)", 4, x.pealHour(0));
    }

    private static final String THAWING = "If the temperature of the air is greater than 0 and that of the top layer is 0, "
            + "the top layer becomes thinner by 1 centimetre.";

    private static void thicknessAfterAnHour(int air, int temperature, int due) {
        IceBells x = Cases.ice(air, Cases.layer(9, temperature));
        x.pass(1);
        Cases.due("thickness(0, 0) of " + temperature + " under air of " + air, due, x.thickness(0, 0));
        Cases.due("thawedTotal()", 9 - due, x.thawedTotal());
    }

    private static void thawingAboveZero() {
        Cases.quote(0, THAWING);
        thicknessAfterAnHour(1, 0, 8);
        thicknessAfterAnHour(20, 0, 8);
        thicknessAfterAnHour(0, 0, 9);
        thicknessAfterAnHour(-1, 0, 9);
    }

    private static void thawingAtZero() {
        Cases.quote(0, THAWING);
        thicknessAfterAnHour(20, -2, 9);
        // The layer reaches 0 in step 1 and thaws in step 4 of the same hour.
        thicknessAfterAnHour(20, -1, 8);
    }

    private static void onlyTheTopThaws() {
        Cases.quote(0, THAWING);
        IceBells x = Cases.ice(20, Cases.layer(3, 0), Cases.layer(4, 0), Cases.layer(5, 0));
        x.pass(1);
        Cases.due("the thicknesses", "2 4 5", Cases.thicknesses(x));
        x.pass(1);
        Cases.due("the thicknesses", "1 4 5", Cases.thicknesses(x));
        IceBells cold = Cases.ice(20, Cases.layer(3, -40), Cases.layer(4, 0));
        cold.pass(1);
        Cases.due("the thicknesses beneath a cold top layer", "3 4", Cases.thicknesses(cold));
    }

    private static void layerOfNoThickness() {
        Cases.quote(0, DISAPPEARS);
        IceBells x = Cases.ice(20, Cases.layer(2, 0), Cases.layer(4, 0));
        x.pass(1);
        Cases.due("the thicknesses", "1 4", Cases.thicknesses(x));
        x.pass(1);
        Cases.due("the thicknesses", "4", Cases.thicknesses(x));
        x.pass(1);
        Cases.due("the thicknesses", "3", Cases.thicknesses(x));
        Cases.due("thawedTotal()", 3, x.thawedTotal());
    }

    private static void lastLayer() {
        Cases.quote(0, DISAPPEARS);
        IceBells x = Cases.ice(20, Cases.layer(1, 0));
        x.pass(1);
        Cases.due("layerCount(0)", 0, x.layerCount(0));
        x.pass(48);
        Cases.due("layerCount(0)", 0, x.layerCount(0));
        Cases.due("thawedTotal()", 1, x.thawedTotal());
        Cases.due("freeze(0, 2, -9)", 1, x.freeze(0, 2, -9));
        Cases.due("the thicknesses", "2", Cases.thicknesses(x));
    }

    private static void airAtTheEnds() {
        Cases.quote(13, "`temperature`: the temperature in degrees, -40 to 20");
        IceBells x = new IceBells();
        Cases.due("setAir(-40)", 0, x.setAir(-40));
        Cases.due("air()", -40, x.air());
        Cases.due("setAir(20)", -40, x.setAir(20));
        Cases.due("air()", 20, x.air());
        Cases.due("setAir(0)", 20, x.setAir(0));
        Cases.due("air()", 0, x.air());
    }

    private static void airBeyondTheEnds() {
        Cases.quote(13, "Throws `IllegalArgumentException` if the temperature is out of range");
        IceBells x = new IceBells();
        x.setAir(7);
        for (int degrees : new int[] {-41, 21, 40, Integer.MIN_VALUE, Integer.MAX_VALUE}) {
            Cases.thrown("setAir(" + degrees + ")", Checks.ARGUMENT, () -> x.setAir(degrees));
        }
        Cases.due("air()", 7, x.air());
    }

    private static void hoursAtTheEnds() {
        Cases.quote(15, "`hours`: the number of hours, 1 to 48");
        IceBells x = new IceBells();
        x.pass(1);
        Cases.due("hour()", 1, x.hour());
        x.pass(48);
        Cases.due("hour()", 49, x.hour());
    }

    private static void hoursBeyondTheEnds() {
        Cases.quote(15, "Throws `IllegalArgumentException` if the number of hours is not from 1 to 48");
        IceBells x = new IceBells();
        for (int hours : new int[] {0, 49, -1, -48, Integer.MIN_VALUE, Integer.MAX_VALUE}) {
            Cases.thrown("pass(" + hours + ")", Checks.ARGUMENT, () -> x.pass(hours));
        }
        Cases.due("hour()", 0, x.hour());
    }

    private static void cracksOfTheseHours() {
        Cases.quote(15, "Returns the number of cracks in these hours.");
        IceBells x = Cases.ice(-40, Cases.layer(10, -40));
        Cases.due("pass(2)", 2, x.pass(2));
        Cases.due("pass(3), without the cracks before", 3, x.pass(3));
        x.strike(0, 0);
        Cases.due("pass(1), without the strike", 1, x.pass(1));
        x.setAir(0);
        // Strains of 33, 32, 31 and 30 crack in their hours; 29 and 28 take two hours for a crack.
        Cases.due("pass(6)", 5, x.pass(6));
    }

    private static void untilCrackOnACopy() {
        Cases.quote(17, "Returns after how many hours the next crack would happen with the present air, in any "
                + "lake, by letting hours pass on a copy.");
        IceBells x = Cases.ice(-10, Cases.layer(10, -5));
        String before = Cases.landscape(x);
        Cases.due("hoursUntilCrack()", 6, x.hoursUntilCrack());
        Cases.due("the landscape afterwards", before, Cases.landscape(x));
        x.setAir(-40);
        // 6, 7, 8 and 9 are 30 after four hours.
        Cases.due("hoursUntilCrack() under colder air", 4, x.hoursUntilCrack());
        x.addLake(100);
        x.addLake(100);
        x.freeze(2, 5, -17);
        Cases.due("hoursUntilCrack() of another lake", 2, x.hoursUntilCrack());
        x.addWindow(1, 3);
        Cases.due("hoursUntilCrack() with a window", 5, x.hoursUntilCrack());
    }

    private static void untilCrackAtLeastOne() {
        Cases.quote(17, "Returns the number of hours, at least 1.");
        IceBells x = Cases.ice(-10, Cases.layer(10, -5));
        x.pass(5);
        Cases.due("hoursUntilCrack()", 1, x.hoursUntilCrack());
        IceBells y = Cases.ice(-40, Cases.layer(10, -40), Cases.layer(10, -9));
        y.pass(3);
        Cases.due("the strain that is left from beneath", 30, y.strain(0, 0));
        Cases.due("hoursUntilCrack()", 1, y.hoursUntilCrack());
    }

    private static void untilCrackAtTheEnd() {
        Cases.quote(17, "Throws `NoSuchElementException` if no crack would happen within 96 hours");
        IceBells none = new IceBells();
        Cases.thrown("hoursUntilCrack() without lakes", Checks.NO_ELEMENT, () -> none.hoursUntilCrack());
        IceBells bare = Cases.lakes(100);
        Cases.thrown("hoursUntilCrack() without ice", Checks.NO_ELEMENT, () -> bare.hoursUntilCrack());
        IceBells x = Cases.ice(-10, Cases.layer(10, -5));
        x.addWindow(1, 91);
        Cases.thrown("hoursUntilCrack() of 97 hours", Checks.NO_ELEMENT, () -> x.hoursUntilCrack());
        x.pass(1);
        Cases.due("hoursUntilCrack() of 96 hours", 96, x.hoursUntilCrack());
    }

    private static void untilThawedOnACopy() {
        Cases.quote(18, "Returns after how many hours a lake would have no ice any more with the present air, by "
                + "letting hours pass on a copy.");
        IceBells x = Cases.ice(20, Cases.layer(3, -2), Cases.layer(2, 0));
        String before = Cases.landscape(x);
        // -1 after one hour, 0 after two, when the first of 5 cm thaws.
        Cases.due("hoursUntilThawed(0)", 6, x.hoursUntilThawed(0));
        Cases.due("the landscape afterwards", before, Cases.landscape(x));
        x.addLake(100);
        x.freeze(1, 9, 0);
        Cases.due("hoursUntilThawed(0) beside a lake with ice", 6, x.hoursUntilThawed(0));
        Cases.due("hoursUntilThawed(1)", 9, x.hoursUntilThawed(1));
        x.pass(5);
        Cases.due("hoursUntilThawed(0) an hour before", 1, x.hoursUntilThawed(0));
        x.setAir(0);
        Cases.thrown("hoursUntilThawed(0) under air of 0", Checks.NO_ELEMENT, () -> x.hoursUntilThawed(0));
    }

    private static void untilThawedWithoutIce() {
        Cases.quote(18, "Returns the number of hours, 0 if it has no ice.");
        IceBells x = Cases.lakes(100, 100);
        Cases.due("hoursUntilThawed(0) that never had ice", 0, x.hoursUntilThawed(0));
        x.freeze(1, 1, 0);
        x.setAir(1);
        Cases.due("hoursUntilThawed(1)", 1, x.hoursUntilThawed(1));
        x.pass(1);
        Cases.due("hoursUntilThawed(1) that has thawed", 0, x.hoursUntilThawed(1));
    }

    private static void untilThawedAtTheEnd() {
        Cases.quote(18, "Throws `NoSuchElementException` if it would have ice after 96 hours");
        IceBells x = Cases.ice(20, Cases.layer(48, 0), Cases.layer(48, 0));
        Cases.due("hoursUntilThawed(0) of 96 cm", 96, x.hoursUntilThawed(0));
        x.freeze(0, 1, 0);
        Cases.thrown("hoursUntilThawed(0) of 97 cm", Checks.NO_ELEMENT, () -> x.hoursUntilThawed(0));
        x.pass(1);
        Cases.due("hoursUntilThawed(0) an hour later", 96, x.hoursUntilThawed(0));
    }
}
