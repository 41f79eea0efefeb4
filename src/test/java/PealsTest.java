/** Promises 25 to 39: cracks, peals, totals and ranks. */
public final class PealsTest {
    private static final Checks CHECKS = new Checks("PealsTest");

    public static void main(String[] args) {
        pitches();
        refusals();
        strikesAreRecorded();
        cracksAreRecorded();
        crackOfMeltingLayer();
        onlyTheLatestSixteen();
        missingPeals();
        echoes();
        echoesOfPitchZero();
        cracksOfLakes();
        ranks();
        totals();
        CHECKS.finish();
    }

    private static IceBells oneLake() {
        IceBells x = new IceBells();
        x.addLake(400);
        return x;
    }

    private static void pitches() {
        IceBells x = oneLake();
        int[][] layers = {{1, -40, 140}, {3, -1, 34}, {7, -12, 26}, {30, -5, 8}, {50, -1, 3}, {33, -2, 5}};
        for (int i = 0; i < layers.length; i++) {
            x.freeze(0, layers[i][0], layers[i][1]);
            CHECKS.due(26, "pitch(0, " + i + ")", layers[i][2], x.pitch(0, i));
            CHECKS.due(25, "strike(0, " + i + ")", layers[i][2], x.strike(0, i));
            CHECKS.due(30, "pealPitch(0)", layers[i][2], x.pealPitch(0));
        }
        CHECKS.due(26, "pealCount() after pitch()", layers.length, x.pealCount());
    }

    private static void refusals() {
        IceBells x = oneLake();
        x.freeze(0, 10, 0);
        CHECKS.thrown(25, "strike(0, 0) at 0 degrees", Checks.UNSUPPORTED, () -> x.strike(0, 0));
        CHECKS.thrown(26, "pitch(0, 0) at 0 degrees", Checks.UNSUPPORTED, () -> x.pitch(0, 0));
        for (int n : new int[] {1, 5, 8, -1, Integer.MIN_VALUE, Integer.MAX_VALUE}) {
            CHECKS.thrown(25, "strike(" + n + ", 0)", Checks.INDEX, () -> x.strike(n, 0));
            CHECKS.thrown(25, "strike(0, " + n + ")", Checks.INDEX, () -> x.strike(0, n));
            CHECKS.thrown(26, "pitch(" + n + ", 0)", Checks.INDEX, () -> x.pitch(n, 0));
            CHECKS.thrown(26, "pitch(0, " + n + ")", Checks.INDEX, () -> x.pitch(0, n));
        }
        CHECKS.due(27, "pealCount()", 0, x.pealCount());
    }

    private static void strikesAreRecorded() {
        IceBells x = oneLake();
        x.addLake(100);
        x.freeze(1, 10, -3);
        x.pass(2);
        // After two hours under air of 0 the layer is at -1.
        CHECKS.due(25, "strike(1, 0)", 11, x.strike(1, 0));
        CHECKS.due(27, "pealCount()", 1, x.pealCount());
        CHECKS.due(28, "pealKind(0)", 's', x.pealKind(0));
        CHECKS.due(29, "pealLake(0)", 1, x.pealLake(0));
        CHECKS.due(30, "pealPitch(0)", 11, x.pealPitch(0));
        CHECKS.due(31, "pealHour(0)", 2, x.pealHour(0));
    }

    private static void cracksAreRecorded() {
        IceBells x = oneLake();
        x.freeze(0, 7, -36);
        x.strike(0, 0);
        x.setAir(-40);
        CHECKS.due(15, "pass(1)", 1, x.pass(1));
        CHECKS.due(27, "pealCount()", 2, x.pealCount());
        CHECKS.due(28, "pealKind(0)", 'c', x.pealKind(0));
        CHECKS.due(28, "pealKind(1)", 's', x.pealKind(1));
        CHECKS.due(29, "pealLake(0)", 0, x.pealLake(0));
        CHECKS.due(30, "pealPitch(0)", 14 + 35, x.pealPitch(0));
        CHECKS.due(30, "pealPitch(1)", 14 + 36, x.pealPitch(1));
        CHECKS.due(31, "pealHour(0)", 1, x.pealHour(0));
        CHECKS.due(31, "pealHour(1)", 0, x.pealHour(1));
    }

    /** A layer of 0 degrees over a cold one cracks, too, and its crack is recorded with the pitch 0. */
    private static void crackOfMeltingLayer() {
        IceBells x = oneLake();
        x.freeze(0, 50, 0);
        x.freeze(0, 5, -40);
        x.setAir(20);
        CHECKS.due(15, "pass(1)", 2, x.pass(1));
        // The top layer's target is (20 - 40) / 2 = -10, so it is at -1; the strains are 38 and 39.
        CHECKS.due(30, "pealPitch(1)", 2 + 1, x.pealPitch(1));
        IceBells y = oneLake();
        y.freeze(0, 50, 0);
        y.freeze(0, 5, -20);
        y.setAir(20);
        // The target of the top layer is (20 - 20) / 2 = 0: it stays at 0.
        y.pass(1);
        CHECKS.due(9, "strain(0, 0)", 19, y.strain(0, 0));
        CHECKS.due(15, "pass(1)", 2, y.pass(1));
        CHECKS.due(30, "pealPitch(1) at 0 degrees", 0, y.pealPitch(1));
        CHECKS.due(30, "pealPitch(0)", 20 + 18, y.pealPitch(0));
    }

    private static void onlyTheLatestSixteen() {
        IceBells x = oneLake();
        for (int i = 1; i <= 8; i++) {
            x.freeze(0, 10, -i);
        }
        for (int i = 0; i < 21; i++) {
            CHECKS.due(27, "pealCount()", Math.min(i, 16), x.pealCount());
            x.strike(0, i % 8);
        }
        CHECKS.due(27, "pealCount()", 16, x.pealCount());
        for (int recency = 0; recency < 16; recency++) {
            CHECKS.due(30, "pealPitch(" + recency + ")", 10 + (20 - recency) % 8 + 1, x.pealPitch(recency));
        }
    }

    private static void missingPeals() {
        IceBells x = oneLake();
        CHECKS.thrown(28, "pealKind(0)", Checks.NO_ELEMENT, () -> x.pealKind(0));
        x.freeze(0, 10, -1);
        x.strike(0, 0);
        for (int n : new int[] {1, 16, -1, Integer.MIN_VALUE, Integer.MAX_VALUE}) {
            CHECKS.thrown(28, "pealKind(" + n + ")", Checks.NO_ELEMENT, () -> x.pealKind(n));
            CHECKS.thrown(29, "pealLake(" + n + ")", Checks.NO_ELEMENT, () -> x.pealLake(n));
            CHECKS.thrown(30, "pealPitch(" + n + ")", Checks.NO_ELEMENT, () -> x.pealPitch(n));
            CHECKS.thrown(31, "pealHour(" + n + ")", Checks.NO_ELEMENT, () -> x.pealHour(n));
        }
        for (int i = 0; i < 20; i++) {
            x.strike(0, 0);
        }
        CHECKS.thrown(28, "pealKind(16)", Checks.NO_ELEMENT, () -> x.pealKind(16));
        CHECKS.due(28, "pealKind(15)", 's', x.pealKind(15));
    }

    private static void echoes(IceBells x, int pairs, int pitches) {
        CHECKS.due(32, "echoPairs()", pairs, x.echoPairs());
        CHECKS.due(33, "echoPairsByPitch()", pairs, x.echoPairsByPitch());
        CHECKS.due(34, "pitchCount()", pitches, x.pitchCount());
    }

    private static void echoes() {
        IceBells x = oneLake();
        echoes(x, 0, 0);
        x.freeze(0, 1, -40);
        x.freeze(0, 10, -2);
        x.freeze(0, 11, -3);
        x.strike(0, 0);
        echoes(x, 0, 1);
        x.strike(0, 1);
        echoes(x, 0, 2);
        // 100 / 11 + 3 is 12, as 100 / 10 + 2 is.
        x.strike(0, 2);
        echoes(x, 1, 2);
        x.strike(0, 0);
        x.strike(0, 1);
        echoes(x, 1 + 3, 2);
        for (int i = 0; i < 16; i++) {
            x.strike(0, 0);
        }
        echoes(x, 16 * 15 / 2, 1);
    }

    private static void echoesOfPitchZero() {
        IceBells x = oneLake();
        x.freeze(0, 50, 0);
        x.freeze(0, 5, -20);
        x.setAir(20);
        CHECKS.due(15, "pass(2)", 2, x.pass(2));
        // Counted first, so that it cannot lean on what the other answers have counted.
        CHECKS.due(34, "pitchCount()", 2, x.pitchCount());
        echoes(x, 0, 2);
        x.strike(0, 1);
        CHECKS.due(34, "pitchCount()", 2, x.pitchCount());
        CHECKS.due(33, "echoPairsByPitch()", 1, x.echoPairsByPitch());
        // Both layers crack once more: the upper one at 0, the lower one at -16.
        CHECKS.due(15, "pass(2)", 2, x.pass(2));
        CHECKS.due(30, "pealPitch(1)", 0, x.pealPitch(1));
        CHECKS.due(30, "pealPitch(0)", 20 + 16, x.pealPitch(0));
        CHECKS.due(34, "pitchCount()", 3, x.pitchCount());
        CHECKS.due(32, "echoPairs()", 2, x.echoPairs());
        CHECKS.due(33, "echoPairsByPitch()", 2, x.echoPairsByPitch());
        x.undo();
        CHECKS.due(34, "pitchCount() after undo()", 2, x.pitchCount());
    }

    private static void cracksOfLakes() {
        IceBells x = new IceBells();
        CHECKS.thrown(35, "cracksOf(0)", Checks.INDEX, () -> x.cracksOf(0));
        x.addLake(100);
        x.addLake(100);
        x.freeze(0, 5, -20);
        x.freeze(1, 5, -40);
        x.setAir(-40);
        x.pass(2);
        CHECKS.due(35, "cracksOf(0)", 1, x.cracksOf(0));
        CHECKS.due(35, "cracksOf(1)", 2, x.cracksOf(1));
        CHECKS.due(39, "crackTotal()", 3, x.crackTotal());
        for (int n : new int[] {2, 5, -1, Integer.MIN_VALUE, Integer.MAX_VALUE}) {
            CHECKS.thrown(35, "cracksOf(" + n + ")", Checks.INDEX, () -> x.cracksOf(n));
        }
        x.setAir(20);
        x.pass(48);
        CHECKS.due(35, "cracksOf(1) is kept without ice", true, x.layerCount(1) == 0 && x.cracksOf(1) >= 2);
        int cracks = x.crackTotal();
        for (int i = 0; i < 20; i++) {
            x.freeze(0, 1, -40);
            x.strike(0, 0);
            x.pass(48);
        }
        CHECKS.due(39, "crackTotal() without strikes", x.cracksOf(0) + x.cracksOf(1), x.crackTotal());
        CHECKS.due(39, "crackTotal() beyond 16", true, x.crackTotal() > cracks + 16);
    }

    private static void ranks() {
        IceBells x = new IceBells();
        CHECKS.thrown(36, "lakeAtRank(0)", Checks.NO_ELEMENT, () -> x.lakeAtRank(0));
        for (int i = 0; i < 5; i++) {
            x.addLake(100);
        }
        for (int i = 0; i < 5; i++) {
            CHECKS.due(36, "lakeAtRank(" + i + ") of equal lakes", i, x.lakeAtRank(i));
        }
        x.freeze(1, 10, -5);
        x.freeze(3, 10, -40);
        x.freeze(4, 11, -5);
        x.freeze(2, 4, -5);
        x.freeze(2, 6, -5);
        x.setAir(-10);
        x.pass(1);
        int[] due = {4, 3, 1, 2, 0};
        for (int i = 0; i < due.length; i++) {
            CHECKS.due(36, "lakeAtRank(" + i + ")", due[i], x.lakeAtRank(i));
        }
        for (int n : new int[] {5, -1, Integer.MIN_VALUE, Integer.MAX_VALUE}) {
            CHECKS.thrown(36, "lakeAtRank(" + n + ")", Checks.NO_ELEMENT, () -> x.lakeAtRank(n));
        }
    }

    private static void totals() {
        IceBells x = new IceBells();
        x.addLake(100);
        x.addLake(100);
        x.freeze(0, 10, 0);
        x.freeze(1, 7, 0);
        x.freeze(1, 3, 0);
        CHECKS.due(37, "frozenTotal()", 20, x.frozenTotal());
        CHECKS.due(38, "thawedTotal()", 0, x.thawedTotal());
        x.setAir(5);
        x.pass(9);
        CHECKS.due(37, "frozenTotal()", 20, x.frozenTotal());
        CHECKS.due(38, "thawedTotal()", 18, x.thawedTotal());
        x.freeze(0, 4, 0);
        CHECKS.due(37, "frozenTotal()", 24, x.frozenTotal());
        CHECKS.due(49, "isConsistent()", true, x.isConsistent());
    }
}
