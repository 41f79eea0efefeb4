/** The boundary cases of the hours: "Hours" of the terms with their four steps, and promises 13 to 18. */
final class HourEdges {
    private static final String LAKE_BY_LAKE = "Then the following steps are carried out for each lake that has "
            + "ice, in the order of their numbers.";
    private static final String TARGET = "The target of a layer is the sum of the temperatures of what is above and "
            + "beneath it, divided by 2, rounded towards zero; the temperatures are those at the beginning of this "
            + "step.";
    private static final String DISAPPEARS = "A layer whose thickness becomes 0 disappears.";

    private HourEdges() {
    }

    static void all() {
        hourCountsFirst();
        lakesInTheOrderOfTheirNumbers();
        lakesWithoutIce();
        layersFromTheTop();
        airAboveAndWaterBeneath();
        targetRoundsTowardsZero();
        targetByTheTemperaturesBefore();
        warmerByOne();
        colderByOne();
        atTheTarget();
        notWarmerThanMelting();
        strainByTheTemperaturesAfter();
        strainOfTheLowestLayer();
        strainInAWindow();
        crackAtThirty();
        neighboursOnBothSides();
        neighboursAtTheEnds();
        neighbourThatReachesThirty();
        neighbourThatReachesTwentyNine();
        layerAboveCracksAnHourLater();
        thawingAboveZero();
        thawingAtZero();
        onlyTheTopThaws();
        layerOfNoThickness();
        lastLayer();
        airAtTheEnds();
        airBeyondTheEnds();
        hoursAtTheEnds();
        hoursBeyondTheEnds();
        cracksOfTheseHours();
        untilCrackOnACopy();
        untilCrackAtLeastOne();
        untilCrackAtTheEnd();
        untilThawedOnACopy();
        untilThawedWithoutIce();
        untilThawedAtTheEnd();
    }

    private static void hourCountsFirst() {
        Edges.quote(0, "When an hour passes, the number of hours increases by 1 first.");
        IceBells x = Edges.ice(-10, Edges.layer(10, -5));
        x.addWindow(1, 1);
        x.pass(1);
        Edges.due("hour()", 1, x.hour());
        Edges.due("the strains after hour 1", "0", Edges.strains(x));
        x.pass(1);
        Edges.due("the strains after hour 2", "5", Edges.strains(x));
        IceBells y = Edges.ice(-40, Edges.layer(10, -31));
        y.pass(1);
        Edges.due("the peals", "c0:40@1", Edges.peals(y));
    }

    private static void lakesInTheOrderOfTheirNumbers() {
        Edges.quote(0, LAKE_BY_LAKE);
        IceBells x = Edges.lakes(100, 100, 100);
        x.setAir(-40);
        x.freeze(2, 10, -40);
        x.freeze(0, 20, -40);
        x.freeze(1, 50, -40);
        Edges.due("pass(1)", 3, x.pass(1));
        Edges.due("the peals", "c2:49@1 c1:41@1 c0:44@1", Edges.peals(x));
    }

    private static void lakesWithoutIce() {
        Edges.quote(0, LAKE_BY_LAKE);
        IceBells x = Edges.lakes(100, 100, 100, 100, 100);
        x.setAir(20);
        Edges.due("pass(48) without ice", 0, x.pass(48));
        Edges.due("thawedTotal()", 0, x.thawedTotal());
        x.freeze(1, 3, 0);
        x.freeze(4, 5, 0);
        x.pass(1);
        Edges.due("thawedTotal()", 2, x.thawedTotal());
        Edges.due("iceThickness(4)", 4, x.iceThickness(4));
        for (int lake : new int[] {0, 2, 3}) {
            Edges.due("layerCount(" + lake + ")", 0, x.layerCount(lake));
        }
    }

    private static void layersFromTheTop() {
        Edges.quote(0, "The layers are visited from the top.");
        IceBells x = Edges.ice(20, Edges.layer(50, 0), Edges.layer(20, -40));
        // The strains are 38 and 39, so both crack in one hour.
        Edges.due("pass(1)", 2, x.pass(1));
        Edges.due("the peals", "c0:44@1 c0:3@1", Edges.peals(x));
    }

    private static void airAboveAndWaterBeneath() {
        Edges.quote(0, "The layer above the top layer is the air; what is beneath the lowest layer is water with "
                + "the temperature 0.");
        IceBells x = Edges.ice(-20, Edges.layer(5, -10));
        x.pass(1);
        Edges.due("the temperatures under air of -20", "-10", Edges.temperatures(x));
        x.setAir(-22);
        x.pass(1);
        Edges.due("the temperatures under air of -22", "-11", Edges.temperatures(x));
        x.setAir(-19);
        x.pass(1);
        Edges.due("the temperatures under air of -19", "-10", Edges.temperatures(x));
        IceBells y = Edges.ice(-40, Edges.layer(5, -20), Edges.layer(5, 0));
        y.pass(1);
        // The air is above the top layer alone: the target of the other one is (-20 + 0) / 2.
        Edges.due("the temperatures", "-20 -1", Edges.temperatures(y));
    }

    private static void temperatureAfterAnHour(int air, int before, int after) {
        IceBells x = Edges.ice(air, Edges.layer(5, before));
        x.pass(1);
        Edges.due("of " + before + " under air of " + air + " after an hour", after, x.temperature(0, 0));
    }

    private static void targetRoundsTowardsZero() {
        Edges.quote(0, TARGET);
        temperatureAfterAnHour(-1, 0, 0);
        temperatureAfterAnHour(-2, 0, -1);
        temperatureAfterAnHour(-3, -1, -1);
        temperatureAfterAnHour(-3, -2, -1);
        temperatureAfterAnHour(-39, -19, -19);
        temperatureAfterAnHour(1, 0, 0);
    }

    private static void targetByTheTemperaturesBefore() {
        Edges.quote(0, TARGET);
        IceBells x = Edges.ice(-40, Edges.layer(5, -1), Edges.layer(5, 0));
        x.pass(1);
        // From the new -2 above it, the lowest layer would have the target -1.
        Edges.due("the temperatures", "-2 0", Edges.temperatures(x));
        IceBells y = Edges.ice(0, Edges.layer(5, 0), Edges.layer(5, -2));
        y.pass(1);
        // From the new -1 beneath it, the top layer would have the target 0.
        Edges.due("the temperatures", "-1 -1", Edges.temperatures(y));
    }

    private static final String BY_ONE_DEGREE = "Each layer whose temperature is less than its target becomes 1 degree "
            + "warmer, and each layer whose temperature is greater than its target becomes 1 degree colder, "
            + "but no layer becomes warmer than 0 degrees.";

    private static void warmerByOne() {
        Edges.quote(0, BY_ONE_DEGREE);
        temperatureAfterAnHour(0, -40, -39);
        temperatureAfterAnHour(20, -40, -39);
        temperatureAfterAnHour(-40, -21, -20);
    }

    private static void colderByOne() {
        Edges.quote(0, BY_ONE_DEGREE);
        temperatureAfterAnHour(-40, 0, -1);
        temperatureAfterAnHour(-40, -19, -20);
    }

    private static void atTheTarget() {
        Edges.quote(0, BY_ONE_DEGREE);
        temperatureAfterAnHour(-40, -20, -20);
        temperatureAfterAnHour(0, 0, 0);
        IceBells x = Edges.ice(-12, Edges.layer(5, -8), Edges.layer(5, -4));
        x.pass(3);
        Edges.due("the temperatures", "-8 -4", Edges.temperatures(x));
    }

    private static void notWarmerThanMelting() {
        Edges.quote(0, BY_ONE_DEGREE);
        temperatureAfterAnHour(20, -1, 0);
        temperatureAfterAnHour(20, 0, 0);
        temperatureAfterAnHour(2, 0, 0);
        IceBells x = Edges.ice(20, Edges.layer(50, -3), Edges.layer(50, 0));
        x.pass(10);
        Edges.due("the temperatures", "0 0", Edges.temperatures(x));
    }

    private static final String STRAIN = "If the present hour is not in a thaw window, the strain of each layer increases "
            + "by the absolute difference of its temperature and the temperature of the layer beneath it, "
            + "or of the water for the lowest layer, both as they are after step 1.";

    private static void strainByTheTemperaturesAfter() {
        Edges.quote(0, STRAIN);
        IceBells x = Edges.ice(-20, Edges.layer(5, -10), Edges.layer(5, -20), Edges.layer(5, -6));
        x.pass(1);
        Edges.due("the temperatures", "-11 -19 -7", Edges.temperatures(x));
        Edges.due("the strains", "8 12 7", Edges.strains(x));
    }

    private static void strainOfTheLowestLayer() {
        Edges.quote(0, STRAIN);
        IceBells x = Edges.ice(-14, Edges.layer(5, -7));
        x.pass(1);
        Edges.due("the strains", "7", Edges.strains(x));
        x.pass(2);
        Edges.due("the strains", "21", Edges.strains(x));
    }

    private static void strainInAWindow() {
        Edges.quote(0, STRAIN);
        IceBells x = Edges.ice(-10, Edges.layer(10, -5));
        x.addWindow(3, 4);
        String[] due = {"5", "10", "10", "10", "15", "20"};
        for (int i = 0; i < due.length; i++) {
            x.pass(1);
            Edges.due("the strains after hour " + (i + 1) + " with a window 3-4", due[i], Edges.strains(x));
        }
    }

    private static void crackAtThirty() {
        Edges.quote(0, "Each layer with a strain of at least 30 cracks: the crack is recorded as a peal, and its "
                + "strain becomes 0.");
        IceBells below = Edges.ice(-40, Edges.layer(5, -30));
        Edges.due("pass(1) to a strain of 29", 0, below.pass(1));
        Edges.due("the strains", "29", Edges.strains(below));
        Edges.due("the peals", "", Edges.peals(below));
        IceBells at = Edges.ice(-40, Edges.layer(5, -31));
        Edges.due("pass(1) to a strain of 30", 1, at.pass(1));
        Edges.due("the strains", "0", Edges.strains(at));
        Edges.due("the peals", "c0:50@1", Edges.peals(at));
        IceBells above = Edges.ice(-40, Edges.layer(5, -40));
        Edges.due("pass(1) to a strain of 39", 1, above.pass(1));
        Edges.due("the strains", "0", Edges.strains(above));
        Edges.due("cracksOf(0)", 1, above.cracksOf(0));
    }

    private static final String NEIGHBOURS = "The strain of each neighbouring layer increases by 5; a layer beneath it that "
            + "reaches 30 by this is visited later and cracks, too, but a layer above it does not crack before the next hour.";

    private static void neighboursOnBothSides() {
        Edges.quote(0, NEIGHBOURS);
        IceBells x = Edges.ice(-40, Edges.layer(10, -40), Edges.layer(10, -38), Edges.layer(10, -40),
                Edges.layer(10, 0), Edges.layer(10, 0));
        Edges.due("pass(1)", 1, x.pass(1));
        // -39, -39, -39, -1 and 0 after step 1: strains of 0, 0, 38, 1 and 0.
        Edges.due("the strains", "0 5 0 6 0", Edges.strains(x));
    }

    private static void neighboursAtTheEnds() {
        Edges.quote(0, NEIGHBOURS);
        IceBells top = Edges.ice(-40, Edges.layer(10, -40), Edges.layer(10, -1));
        Edges.due("pass(1) with a crack of the top layer", 1, top.pass(1));
        // -39 and -2 after step 1.
        Edges.due("the strains", "0 7", Edges.strains(top));
        IceBells lowest = Edges.ice(-40, Edges.layer(10, -40), Edges.layer(10, -40));
        Edges.due("pass(1) with a crack of the lowest layer", 1, lowest.pass(1));
        Edges.due("the strains", "6 0", Edges.strains(lowest));
        Edges.due("freeze(0, 5, -3)", 3, lowest.freeze(0, 5, -3));
        Edges.due("the strains", "6 0 0", Edges.strains(lowest));
        IceBells single = Edges.ice(-40, Edges.layer(10, -40));
        Edges.due("pass(1) with a crack of the single layer", 1, single.pass(1));
        Edges.due("the strains", "0", Edges.strains(single));
    }

    /** After an hour the layers have strains of 16 and 23; the next hour brings the top layer to 30. */
    private static IceBells nearCrack(int lowest) {
        IceBells x = Edges.ice(-40, Edges.layer(10, -40), Edges.layer(10, -24));
        x.pass(1);
        Edges.due("the strains", "16 23", Edges.strains(x));
        x.freeze(0, 10, lowest);
        return x;
    }

    private static void neighbourThatReachesThirty() {
        Edges.quote(0, NEIGHBOURS);
        IceBells x = nearCrack(-23);
        // Strains of 30, 25 and 22 in step 3, then 0, 30 and 22, then 5, 0 and 27.
        Edges.due("pass(1)", 2, x.pass(1));
        Edges.due("the strains", "5 0 27", Edges.strains(x));
        Edges.due("the peals", "c0:34@2 c0:48@2", Edges.peals(x));
    }

    private static void neighbourThatReachesTwentyNine() {
        Edges.quote(0, NEIGHBOURS);
        IceBells x = nearCrack(-24);
        // Strains of 30, 24 and 23 in step 3.
        Edges.due("pass(1)", 1, x.pass(1));
        Edges.due("the strains", "0 29 23", Edges.strains(x));
    }

    private static void layerAboveCracksAnHourLater() {
        Edges.quote(0, NEIGHBOURS);
        IceBells x = Edges.ice(-40, Edges.layer(10, -40), Edges.layer(10, -9));
        x.pass(2);
        Edges.due("the strains", "0 26", Edges.strains(x));
        // Strains of 25 and 38 in step 3.
        Edges.due("pass(1)", 1, x.pass(1));
        Edges.due("the strains", "30 0", Edges.strains(x));
        Edges.due("hoursUntilCrack()", 1, x.hoursUntilCrack());
        Edges.due("pass(1)", 1, x.pass(1));
        Edges.due("the strain of the layer above", 0, x.strain(0, 0));
        Edges.due("pealHour(0)", 4, x.pealHour(0));
    }

    private static final String THAWING = "If the temperature of the air is greater than 0 and that of the top layer is 0, "
            + "the top layer becomes thinner by 1 centimetre.";

    private static void thicknessAfterAnHour(int air, int temperature, int due) {
        IceBells x = Edges.ice(air, Edges.layer(9, temperature));
        x.pass(1);
        Edges.due("thickness(0, 0) of " + temperature + " under air of " + air, due, x.thickness(0, 0));
        Edges.due("thawedTotal()", 9 - due, x.thawedTotal());
    }

    private static void thawingAboveZero() {
        Edges.quote(0, THAWING);
        thicknessAfterAnHour(1, 0, 8);
        thicknessAfterAnHour(20, 0, 8);
        thicknessAfterAnHour(0, 0, 9);
        thicknessAfterAnHour(-1, 0, 9);
    }

    private static void thawingAtZero() {
        Edges.quote(0, THAWING);
        thicknessAfterAnHour(20, -2, 9);
        // The layer reaches 0 in step 1 and thaws in step 4 of the same hour.
        thicknessAfterAnHour(20, -1, 8);
    }

    private static void onlyTheTopThaws() {
        Edges.quote(0, THAWING);
        IceBells x = Edges.ice(20, Edges.layer(3, 0), Edges.layer(4, 0), Edges.layer(5, 0));
        x.pass(1);
        Edges.due("the thicknesses", "2 4 5", Edges.thicknesses(x));
        x.pass(1);
        Edges.due("the thicknesses", "1 4 5", Edges.thicknesses(x));
        IceBells cold = Edges.ice(20, Edges.layer(3, -40), Edges.layer(4, 0));
        cold.pass(1);
        Edges.due("the thicknesses beneath a cold top layer", "3 4", Edges.thicknesses(cold));
    }

    private static void layerOfNoThickness() {
        Edges.quote(0, DISAPPEARS);
        IceBells x = Edges.ice(20, Edges.layer(2, 0), Edges.layer(4, 0));
        x.pass(1);
        Edges.due("the thicknesses", "1 4", Edges.thicknesses(x));
        x.pass(1);
        Edges.due("the thicknesses", "4", Edges.thicknesses(x));
        x.pass(1);
        Edges.due("the thicknesses", "3", Edges.thicknesses(x));
        Edges.due("thawedTotal()", 3, x.thawedTotal());
    }

    private static void lastLayer() {
        Edges.quote(0, DISAPPEARS);
        IceBells x = Edges.ice(20, Edges.layer(1, 0));
        x.pass(1);
        Edges.due("layerCount(0)", 0, x.layerCount(0));
        x.pass(48);
        Edges.due("layerCount(0)", 0, x.layerCount(0));
        Edges.due("thawedTotal()", 1, x.thawedTotal());
        Edges.due("freeze(0, 2, -9)", 1, x.freeze(0, 2, -9));
        Edges.due("the thicknesses", "2", Edges.thicknesses(x));
    }

    private static void airAtTheEnds() {
        Edges.quote(13, "`temperature`: the temperature in degrees, -40 to 20");
        IceBells x = new IceBells();
        Edges.due("setAir(-40)", 0, x.setAir(-40));
        Edges.due("air()", -40, x.air());
        Edges.due("setAir(20)", -40, x.setAir(20));
        Edges.due("air()", 20, x.air());
        Edges.due("setAir(0)", 20, x.setAir(0));
        Edges.due("air()", 0, x.air());
    }

    private static void airBeyondTheEnds() {
        Edges.quote(13, "Throws `IllegalArgumentException` if the temperature is out of range");
        IceBells x = new IceBells();
        x.setAir(7);
        for (int degrees : new int[] {-41, 21, 40, Integer.MIN_VALUE, Integer.MAX_VALUE}) {
            Edges.thrown("setAir(" + degrees + ")", Checks.ARGUMENT, () -> x.setAir(degrees));
        }
        Edges.due("air()", 7, x.air());
    }

    private static void hoursAtTheEnds() {
        Edges.quote(15, "`hours`: the number of hours, 1 to 48");
        IceBells x = new IceBells();
        x.pass(1);
        Edges.due("hour()", 1, x.hour());
        x.pass(48);
        Edges.due("hour()", 49, x.hour());
    }

    private static void hoursBeyondTheEnds() {
        Edges.quote(15, "Throws `IllegalArgumentException` if the number of hours is not from 1 to 48");
        IceBells x = new IceBells();
        for (int hours : new int[] {0, 49, -1, -48, Integer.MIN_VALUE, Integer.MAX_VALUE}) {
            Edges.thrown("pass(" + hours + ")", Checks.ARGUMENT, () -> x.pass(hours));
        }
        Edges.due("hour()", 0, x.hour());
    }

    private static void cracksOfTheseHours() {
        Edges.quote(15, "Returns the number of cracks in these hours.");
        IceBells x = Edges.ice(-40, Edges.layer(10, -40));
        Edges.due("pass(2)", 2, x.pass(2));
        Edges.due("pass(3), without the cracks before", 3, x.pass(3));
        x.strike(0, 0);
        Edges.due("pass(1), without the strike", 1, x.pass(1));
        x.setAir(0);
        // Strains of 33, 32, 31 and 30 crack in their hours; 29 and 28 take two hours for a crack.
        Edges.due("pass(6)", 5, x.pass(6));
    }

    private static void untilCrackOnACopy() {
        Edges.quote(17, "Returns after how many hours the next crack would happen with the present air, in any "
                + "lake, by letting hours pass on a copy.");
        IceBells x = Edges.ice(-10, Edges.layer(10, -5));
        String before = Edges.landscape(x);
        Edges.due("hoursUntilCrack()", 6, x.hoursUntilCrack());
        Edges.due("the landscape afterwards", before, Edges.landscape(x));
        x.setAir(-40);
        // 6, 7, 8 and 9 are 30 after four hours.
        Edges.due("hoursUntilCrack() under colder air", 4, x.hoursUntilCrack());
        x.addLake(100);
        x.addLake(100);
        x.freeze(2, 5, -17);
        Edges.due("hoursUntilCrack() of another lake", 2, x.hoursUntilCrack());
        x.addWindow(1, 3);
        Edges.due("hoursUntilCrack() with a window", 5, x.hoursUntilCrack());
    }

    private static void untilCrackAtLeastOne() {
        Edges.quote(17, "Returns the number of hours, at least 1.");
        IceBells x = Edges.ice(-10, Edges.layer(10, -5));
        x.pass(5);
        Edges.due("hoursUntilCrack()", 1, x.hoursUntilCrack());
        IceBells y = Edges.ice(-40, Edges.layer(10, -40), Edges.layer(10, -9));
        y.pass(3);
        Edges.due("the strain that is left from beneath", 30, y.strain(0, 0));
        Edges.due("hoursUntilCrack()", 1, y.hoursUntilCrack());
    }

    private static void untilCrackAtTheEnd() {
        Edges.quote(17, "Throws `NoSuchElementException` if no crack would happen within 96 hours");
        IceBells none = new IceBells();
        Edges.thrown("hoursUntilCrack() without lakes", Checks.NO_ELEMENT, () -> none.hoursUntilCrack());
        IceBells bare = Edges.lakes(100);
        Edges.thrown("hoursUntilCrack() without ice", Checks.NO_ELEMENT, () -> bare.hoursUntilCrack());
        IceBells x = Edges.ice(-10, Edges.layer(10, -5));
        x.addWindow(1, 91);
        Edges.thrown("hoursUntilCrack() of 97 hours", Checks.NO_ELEMENT, () -> x.hoursUntilCrack());
        x.pass(1);
        Edges.due("hoursUntilCrack() of 96 hours", 96, x.hoursUntilCrack());
    }

    private static void untilThawedOnACopy() {
        Edges.quote(18, "Returns after how many hours a lake would have no ice any more with the present air, by "
                + "letting hours pass on a copy.");
        IceBells x = Edges.ice(20, Edges.layer(3, -2), Edges.layer(2, 0));
        String before = Edges.landscape(x);
        // -1 after one hour, 0 after two, when the first of 5 cm thaws.
        Edges.due("hoursUntilThawed(0)", 6, x.hoursUntilThawed(0));
        Edges.due("the landscape afterwards", before, Edges.landscape(x));
        x.addLake(100);
        x.freeze(1, 9, 0);
        Edges.due("hoursUntilThawed(0) beside a lake with ice", 6, x.hoursUntilThawed(0));
        Edges.due("hoursUntilThawed(1)", 9, x.hoursUntilThawed(1));
        x.pass(5);
        Edges.due("hoursUntilThawed(0) an hour before", 1, x.hoursUntilThawed(0));
        x.setAir(0);
        Edges.thrown("hoursUntilThawed(0) under air of 0", Checks.NO_ELEMENT, () -> x.hoursUntilThawed(0));
    }

    private static void untilThawedWithoutIce() {
        Edges.quote(18, "Returns the number of hours, 0 if it has no ice.");
        IceBells x = Edges.lakes(100, 100);
        Edges.due("hoursUntilThawed(0) that never had ice", 0, x.hoursUntilThawed(0));
        x.freeze(1, 1, 0);
        x.setAir(1);
        Edges.due("hoursUntilThawed(1)", 1, x.hoursUntilThawed(1));
        x.pass(1);
        Edges.due("hoursUntilThawed(1) that has thawed", 0, x.hoursUntilThawed(1));
    }

    private static void untilThawedAtTheEnd() {
        Edges.quote(18, "Throws `NoSuchElementException` if it would have ice after 96 hours");
        IceBells x = Edges.ice(20, Edges.layer(48, 0), Edges.layer(48, 0));
        Edges.due("hoursUntilThawed(0) of 96 cm", 96, x.hoursUntilThawed(0));
        x.freeze(0, 1, 0);
        Edges.thrown("hoursUntilThawed(0) of 97 cm", Checks.NO_ELEMENT, () -> x.hoursUntilThawed(0));
        x.pass(1);
        Edges.due("hoursUntilThawed(0) an hour later", 96, x.hoursUntilThawed(0));
    }
}
