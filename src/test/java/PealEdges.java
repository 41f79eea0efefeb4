/** The boundary cases of peals: "Pitch" and "Peals" of the terms, promises 25 to 34, and the totals of 35 to 39. */
final class PealEdges {
    private PealEdges() {
    }

    static void all() {
        pitchRoundsDown();
        zeroDegrees(25, "strike", (x, layer) -> x.strike(0, layer));
        zeroDegrees(26, "pitch", (x, layer) -> x.pitch(0, layer));
        strikeIsRecordedAndPitchIsNot();
        crackOfZeroDegrees();
        sixteenStrikes();
        crackBehindSixteenStrikes();
        moreCracksThanPeals();
        whatAPealHas();
        countOfPeals();
        recencies();
        missingPeals();
        pairsOfPeals();
        pitchesOfPeals();
        cracksSoFar();
        frozenSoFar();
        thawedSoFar();
        allCracksSoFar();
        rankByThickness();
        rankByCracks();
        rankByNumber();
        missingRanks();
    }

    private static void pitchRoundsDown() {
        Cases.quote(0, "The pitch of a layer is 100 divided by its thickness, rounded down, minus its temperature.");
        int[][] layers = {{1, -40, 140}, {2, -1, 51}, {3, -1, 34}, {6, -10, 26}, {7, -12, 26}, {33, -2, 5}, {34, -2, 4},
            {50, -1, 3}};
        for (int[] layer : layers) {
            IceBells x = Cases.ice(0, Cases.layer(layer[0], layer[1]));
            Cases.due("pitch of " + layer[0] + " cm at " + layer[1], layer[2], x.pitch(0, 0));
            Cases.due("strike of " + layer[0] + " cm at " + layer[1], layer[2], x.strike(0, 0));
        }
        IceBells thawed = Cases.ice(20, Cases.layer(4, 0));
        thawed.pass(1);
        thawed.setAir(-40);
        thawed.pass(1);
        Cases.due("pitch(0, 0) of 3 cm that were 4", 34, thawed.pitch(0, 0));
    }

    private interface OfLayer {
        int answer(IceBells x, int layer);
    }

    private static void zeroDegrees(int promise, String call, OfLayer asked) {
        Cases.quote(promise, "Throws `UnsupportedOperationException` if the temperature of the layer is 0");
        IceBells x = Cases.ice(0, Cases.layer(10, -1), Cases.layer(10, 0));
        Cases.due(call + "(0, 0) at -1", 11, asked.answer(x, 0));
        int peals = x.pealCount();
        Cases.thrown(call + "(0, 1) at 0", Checks.UNSUPPORTED, () -> asked.answer(x, 1));
        x.pass(1);
        Cases.thrown(call + "(0, 0) at 0", Checks.UNSUPPORTED, () -> asked.answer(x, 0));
        Cases.due("pealCount()", peals, x.pealCount());
    }

    private static void strikeIsRecordedAndPitchIsNot() {
        Cases.quote(25, "The strike is recorded as a peal.");
        IceBells x = Cases.ice(0, Cases.layer(10, -1));
        x.pitch(0, 0);
        Cases.due("the peals after pitch(0, 0)", "", Cases.peals(x));
        x.strike(0, 0);
        Cases.due("the peals after strike(0, 0)", "s0:11@0", Cases.peals(x));
    }

    private static void crackOfZeroDegrees() {
        Cases.quote(0, "A layer with a temperature of 0 does not ring: it can crack, but its crack is recorded with "
                + "the pitch 0.");
        IceBells x = Cases.ice(20, Cases.layer(50, 0), Cases.layer(5, -20));
        x.pass(1);
        Cases.due("the strains", "19 19", Cases.strains(x));
        // The layers are at 0 and -18 with strains of 37 and 37.
        Cases.due("pass(1)", 2, x.pass(1));
        Cases.due("the peals", "c0:38@2 c0:0@2", Cases.peals(x));
        // At -1 a layer rings.
        IceBells y = Cases.ice(20, Cases.layer(50, 0), Cases.layer(5, -40));
        y.pass(1);
        Cases.due("the peals", "c0:59@1 c0:3@1", Cases.peals(y));
    }

    /** Eight layers, each of its own pitch: 11 to 18. */
    private static IceBells eightPitches() {
        IceBells x = Cases.lakes(400);
        for (int i = 1; i <= 8; i++) {
            x.freeze(0, 10, -i);
        }
        return x;
    }

    private static final String SIXTEEN =
            "The latest 16 peals are recorded, each with its kind, its lake, its pitch and the present hour.";

    private static void sixteenStrikes() {
        Cases.quote(0, SIXTEEN);
        IceBells x = eightPitches();
        for (int i = 0; i < 15; i++) {
            x.strike(0, i % 8);
        }
        Cases.due("pealPitch(14), the first of 15", 11, x.pealPitch(14));
        x.strike(0, 7);
        Cases.due("pealPitch(15), the first of 16", 11, x.pealPitch(15));
        x.strike(0, 4);
        Cases.due("pealPitch(15), the second of 17", 12, x.pealPitch(15));
        Cases.due("pealPitch(0), the last of 17", 15, x.pealPitch(0));
        Cases.due("pealCount() of 17", 16, x.pealCount());
        for (int i = 0; i < 16; i++) {
            x.strike(0, 6);
        }
        for (int recency = 0; recency < 16; recency++) {
            Cases.due("pealPitch(" + recency + ") after 16 more", 17, x.pealPitch(recency));
        }
    }

    private static void crackBehindSixteenStrikes() {
        Cases.quote(0, SIXTEEN);
        IceBells x = Cases.ice(-40, Cases.layer(10, -40));
        for (int i = 0; i < 16; i++) {
            x.strike(0, 0);
        }
        x.pass(1);
        Cases.due("pealCount()", 16, x.pealCount());
        Cases.due("pealKind(0)", 'c', x.pealKind(0));
        Cases.due("pealPitch(0)", 49, x.pealPitch(0));
        for (int recency = 1; recency < 16; recency++) {
            Cases.due("pealKind(" + recency + ")", 's', x.pealKind(recency));
            Cases.due("pealHour(" + recency + ")", 0, x.pealHour(recency));
        }
    }

    private static void moreCracksThanPeals() {
        Cases.quote(0, SIXTEEN);
        IceBells x = Cases.lakes(100, 100);
        x.setAir(-40);
        x.freeze(0, 10, -40);
        x.freeze(1, 20, -40);
        // Each lake cracks in each of these hours, at -39, -38 and so on.
        Cases.due("pass(9)", 18, x.pass(9));
        Cases.due("the peals", "c1:36@9 c0:41@9 c1:37@8 c0:42@8 c1:38@7 c0:43@7 c1:39@6 c0:44@6 c1:40@5 c0:45@5 c1:41@4 "
                + "c0:46@4 c1:42@3 c0:47@3 c1:43@2 c0:48@2", Cases.peals(x));
    }

    private static void whatAPealHas() {
        Cases.quote(0, SIXTEEN);
        IceBells x = Cases.lakes(100, 100, 100);
        x.freeze(2, 10, -9);
        x.freeze(1, 20, -40);
        x.setAir(-40);
        x.strike(2, 0);
        x.pass(1);
        x.strike(1, 0);
        x.pass(1);
        Cases.due("the peals", "c1:43@2 s1:44@1 c1:44@1 s2:19@0", Cases.peals(x));
    }

    private static void countOfPeals() {
        Cases.quote(27, "Returns the number of peals, 0 to 16.");
        IceBells x = Cases.ice(0, Cases.layer(10, -1));
        for (int i = 0; i <= 20; i++) {
            Cases.due("pealCount() after " + i + " strikes", Math.min(i, 16), x.pealCount());
            x.strike(0, 0);
        }
    }

    /** A strike of lake 0 in hour 0, a crack of lake 1 in hour 1 and a strike of lake 1 in hour 2. */
    private static IceBells threePeals() {
        IceBells x = Cases.lakes(100, 100);
        x.freeze(0, 10, -4);
        x.freeze(1, 20, -31);
        x.setAir(-40);
        x.strike(0, 0);
        x.pass(1);
        x.pass(1);
        x.strike(1, 0);
        return x;
    }

    private static void recencies() {
        IceBells x = threePeals();
        char[] kinds = {'s', 'c', 's'};
        int[] lakes = {1, 1, 0};
        int[] pitches = {34, 35, 14};
        int[] hours = {2, 1, 0};
        for (int promise = 28; promise <= 31; promise++) {
            Cases.quote(promise, "`recency`: 0 for the latest peal, 1 for the one before it, and so on");
            for (int i = 0; i < 3; i++) {
                switch (promise) {
                    case 28 -> Cases.due("pealKind(" + i + ")", kinds[i], x.pealKind(i));
                    case 29 -> Cases.due("pealLake(" + i + ")", lakes[i], x.pealLake(i));
                    case 30 -> Cases.due("pealPitch(" + i + ")", pitches[i], x.pealPitch(i));
                    default -> Cases.due("pealHour(" + i + ")", hours[i], x.pealHour(i));
                }
            }
        }
    }

    private interface OfPeal {
        Object answer(IceBells x, int recency);
    }

    private static void missingPeal(int promise, String call, OfPeal asked) {
        Cases.quote(promise, "Throws `NoSuchElementException` if there is no such peal");
        IceBells none = new IceBells();
        Cases.thrown(call + "(0) without peals", Checks.NO_ELEMENT, () -> asked.answer(none, 0));
        IceBells x = Cases.ice(0, Cases.layer(10, -1));
        for (int count = 1; count <= 18; count++) {
            x.strike(0, 0);
            int last = Math.min(count, 16) - 1;
            Cases.thrown(call + "(" + last + ") after " + count, null, () -> asked.answer(x, last));
            Cases.thrown(call + "(" + (last + 1) + ") after " + count, Checks.NO_ELEMENT,
                    () -> asked.answer(x, last + 1));
        }
        for (int recency : new int[] {-1, -16, 17, Integer.MIN_VALUE, Integer.MAX_VALUE}) {
            Cases.thrown(call + "(" + recency + ") of 16", Checks.NO_ELEMENT, () -> asked.answer(x, recency));
        }
    }

    private static void missingPeals() {
        missingPeal(28, "pealKind", (x, recency) -> x.pealKind(recency));
        missingPeal(29, "pealLake", (x, recency) -> x.pealLake(recency));
        missingPeal(30, "pealPitch", (x, recency) -> x.pealPitch(recency));
        missingPeal(31, "pealHour", (x, recency) -> x.pealHour(recency));
    }

    private static void pairs(IceBells x, int due) {
        Cases.quote(32, "Returns the number of pairs of recorded peals with the same pitch, found by comparing all "
                + "pairs.");
        Cases.due("echoPairs()", due, x.echoPairs());
        Cases.quote(33, "Returns the same number as echoPairs(), found by counting the peals of each pitch.");
        Cases.due("echoPairsByPitch()", due, x.echoPairsByPitch());
    }

    private static void pairsOfPeals() {
        IceBells x = Cases.ice(20, Cases.layer(1, -40), Cases.layer(10, -2), Cases.layer(11, -3), Cases.layer(50, -1));
        pairs(x, 0);
        x.strike(0, 1);
        pairs(x, 0);
        // 100 / 11 + 3 is 100 / 10 + 2.
        x.strike(0, 2);
        pairs(x, 1);
        x.strike(0, 1);
        pairs(x, 3);
        // The highest pitch there is, 140, and the lowest one of a strike, 3.
        x.strike(0, 0);
        x.strike(0, 3);
        pairs(x, 3);
        x.strike(0, 0);
        x.strike(0, 3);
        pairs(x, 5);
        for (int i = 0; i < 9; i++) {
            x.strike(0, 0);
        }
        // 3 of 12, 11 of 140 and 2 of 3.
        pairs(x, 3 + 55 + 1);
        x.strike(0, 0);
        // The first of the three has gone.
        pairs(x, 1 + 66 + 1);
        for (int i = 0; i < 20; i++) {
            x.strike(0, 0);
        }
        pairs(x, 120);
    }

    private static void pitchesOfPeals() {
        Cases.quote(34, "Returns the number of different pitches among the recorded peals.");
        IceBells x = eightPitches();
        Cases.due("pitchCount() without peals", 0, x.pitchCount());
        for (int i = 0; i < 16; i++) {
            x.strike(0, i % 8);
            Cases.due("pitchCount() after " + (i + 1), Math.min(i + 1, 8), x.pitchCount());
        }
        for (int i = 0; i < 16; i++) {
            x.strike(0, 3);
        }
        Cases.due("pitchCount() of one pitch", 1, x.pitchCount());
        IceBells y = Cases.ice(20, Cases.layer(50, 0), Cases.layer(5, -20));
        y.pass(2);
        Cases.due("pitchCount() with the pitch 0", 2, y.pitchCount());
    }

    private static void cracksSoFar() {
        Cases.quote(35, "Returns the number of cracks of a lake so far.");
        IceBells x = Cases.lakes(100, 100);
        Cases.due("cracksOf(0)", 0, x.cracksOf(0));
        x.freeze(0, 1, -33);
        x.freeze(1, 1, -30);
        x.setAir(20);
        x.pass(2);
        Cases.due("cracksOf(0)", 2, x.cracksOf(0));
        Cases.due("cracksOf(1)", 1, x.cracksOf(1));
        x.strike(0, 0);
        Cases.due("cracksOf(0), without the strike", 2, x.cracksOf(0));
        x.pass(48);
        Cases.due("layerCount(0)", 0, x.layerCount(0));
        int cracks = x.cracksOf(0);
        Cases.due("cracksOf(0) without ice is at least 2", true, cracks >= 2);
        x.freeze(0, 1, -31);
        x.pass(1);
        Cases.due("cracksOf(0) of new ice", cracks + 1, x.cracksOf(0));
    }

    private static void frozenSoFar() {
        Cases.quote(37, "Returns the sum of the thicknesses of all layers that have grown so far, in all lakes.");
        IceBells x = Cases.lakes(100, 100);
        x.freeze(0, 1, 0);
        x.freeze(1, 50, 0);
        Cases.due("frozenTotal()", 51, x.frozenTotal());
        x.setAir(20);
        x.pass(3);
        Cases.due("frozenTotal() after thawing", 51, x.frozenTotal());
        x.freeze(0, 7, 0);
        Cases.due("frozenTotal()", 58, x.frozenTotal());
    }

    private static void thawedSoFar() {
        Cases.quote(38, "Returns the sum of the thicknesses that have thawed so far, in all lakes.");
        IceBells x = Cases.lakes(100, 100);
        x.freeze(0, 1, 0);
        x.freeze(1, 50, 0);
        x.setAir(1);
        x.pass(3);
        Cases.due("thawedTotal()", 4, x.thawedTotal());
        x.setAir(0);
        x.pass(3);
        Cases.due("thawedTotal() under air of 0", 4, x.thawedTotal());
        x.freeze(0, 2, 0);
        x.setAir(1);
        x.pass(2);
        Cases.due("thawedTotal() of new ice", 8, x.thawedTotal());
    }

    private static void allCracksSoFar() {
        Cases.quote(39, "Returns the number of cracks of all lakes so far.");
        IceBells x = new IceBells();
        Cases.due("crackTotal()", 0, x.crackTotal());
        for (int i = 0; i < 5; i++) {
            x.addLake(100);
            x.freeze(i, 5, -40);
        }
        x.setAir(-40);
        x.pass(4);
        Cases.due("crackTotal(), beyond the recorded peals", 20, x.crackTotal());
        x.strike(0, 0);
        Cases.due("crackTotal(), without the strike", 20, x.crackTotal());
    }

    private static final String RANK = "Returns the lake at a rank: the lake with the thicker ice first; of lakes with ice of "
            + "the same thickness the one with more cracks first; then the one with the lower number first.";

    private static String ranks(IceBells x) {
        StringBuilder told = new StringBuilder();
        for (int i = 0; i < x.lakeCount(); i++) {
            told.append(x.lakeAtRank(i));
        }
        return told.toString();
    }

    private static void rankByThickness() {
        Cases.quote(36, RANK);
        IceBells x = Cases.lakes(100, 100, 100, 100, 100);
        x.freeze(0, 2, -40);
        x.freeze(1, 5, 0);
        x.freeze(3, 1, 0);
        x.freeze(3, 3, 0);
        x.freeze(4, 50, 0);
        x.pass(2);
        Cases.due("the ranks, the thinner ice with cracks", "41302", ranks(x));
    }

    private static void rankByCracks() {
        Cases.quote(36, RANK);
        IceBells x = Cases.lakes(100, 100, 100);
        x.freeze(0, 9, -30);
        x.freeze(1, 9, -40);
        x.freeze(2, 4, -5);
        x.freeze(2, 5, -5);
        x.setAir(20);
        x.pass(2);
        Cases.due("the ranks by 1, 2 and 0 cracks", "102", ranks(x));
    }

    private static void rankByNumber() {
        Cases.quote(36, RANK);
        IceBells x = Cases.lakes(20, 400, 100, 50, 300);
        Cases.due("the ranks of lakes without ice", "01234", ranks(x));
        for (int i = 0; i < 5; i++) {
            x.freeze(i, 10, -40);
        }
        x.pass(3);
        Cases.due("the ranks of the same ice", "01234", ranks(x));
    }

    private static void missingRanks() {
        Cases.quote(36, "`rank`: the rank, from 0");
        IceBells x = Cases.lakes(100);
        Cases.due("lakeAtRank(0)", 0, x.lakeAtRank(0));
        Cases.quote(36, "Throws `NoSuchElementException` if there is no such rank");
        IceBells none = new IceBells();
        Cases.thrown("lakeAtRank(0) without lakes", Checks.NO_ELEMENT, () -> none.lakeAtRank(0));
        for (int lakes = 1; lakes <= 5; lakes++) {
            int next = lakes;
            Cases.due("lakeAtRank(" + (next - 1) + ") of " + next, next - 1, x.lakeAtRank(next - 1));
            Cases.thrown("lakeAtRank(" + next + ") of " + next, Checks.NO_ELEMENT, () -> x.lakeAtRank(next));
            if (lakes < 5) {
                x.addLake(100);
            }
        }
        for (int rank : new int[] {-1, 6, Integer.MIN_VALUE, Integer.MAX_VALUE}) {
            Cases.thrown("lakeAtRank(" + rank + ") of 5", Checks.NO_ELEMENT, () -> x.lakeAtRank(rank));
        }
    }
}
