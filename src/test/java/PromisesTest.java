/** The promises in the order of the document, with ordinary inputs; each case quotes the sentences that it goes by. */
public final class PromisesTest {
    private PromisesTest() {
    }

    public static void main(String[] args) {
        Cases.begin("PromisesTest");
        lakesAndLayers();
        questionsAboutLayers();
        weather();
        windows();
        cracks();
        peals();
        pairsOfPeals();
        totalsAndRanks();
        commands();
        refusedCommands();
        line();
        statistics();
        undoAndSnapshot();
        Cases.finishOthers();
    }

    /** Two lakes under cold air: 7 cm at -9 above 20 at -3, and 12 at -30 above 5 at -14 above 33 at -2. */
    private static IceBells twoLakes() {
        IceBells x = Cases.lakes(120, 300);
        x.freeze(0, 7, -9);
        x.freeze(0, 20, -3);
        x.freeze(1, 12, -30);
        x.freeze(1, 5, -14);
        x.freeze(1, 33, -2);
        x.setAir(-25);
        return x;
    }

    /**
     * Then lake 0 is at -12 and -5 with the strains 6 + 6 + 7 and 4 + 5 + 5. Lake 1 is at -27, -16 and -5; it had the
     * strains 14 + 12 + 11, 12 + 12 + 11 and 3 + 4 + 5 when its two upper layers cracked: 5, 0 and 17 are left.
     */
    private static IceBells threeHoursLater() {
        IceBells x = twoLakes();
        x.pass(3);
        return x;
    }

    private static void lakesAndLayers() {
        Cases.quote(1, "Creates a landscape without lakes at hour 0; the temperature of the air is 0.");
        IceBells x = new IceBells();
        Cases.due("lakeCount()", 0, x.lakeCount());
        Cases.due("hour()", 0, x.hour());
        Cases.due("air()", 0, x.air());

        Cases.quote(2, "Adds a lake without ice.", "Returns the number of the lake.");
        Cases.due("addLake(120)", 0, x.addLake(120));
        Cases.due("addLake(300)", 1, x.addLake(300));
        Cases.due("layerCount(0)", 0, x.layerCount(0));
        Cases.due("iceThickness(1)", 0, x.iceThickness(1));

        Cases.quote(3, "Lets a layer of ice grow beneath all other layers of a lake.",
                "Returns the number of layers after the call.");
        Cases.due("freeze(0, 7, -9)", 1, x.freeze(0, 7, -9));
        Cases.due("freeze(0, 20, -3)", 2, x.freeze(0, 20, -3));
        Cases.due("freeze(1, 2, -8)", 1, x.freeze(1, 2, -8));
        Cases.due("freeze(0, 4, -1)", 3, x.freeze(0, 4, -1));
        Cases.due("the thicknesses", "7 20 4", Cases.thicknesses(x));
        Cases.due("the temperatures", "-9 -3 -1", Cases.temperatures(x));
        Cases.due("thickness(1, 0)", 2, x.thickness(1, 0));

        Cases.quote(4, "Returns the number of lakes.");
        Cases.due("lakeCount()", 2, x.lakeCount());
        x.addLake(50);
        Cases.due("lakeCount()", 3, x.lakeCount());

        Cases.quote(5, "Returns the depth of a lake.", "Returns the depth in centimetres.");
        Cases.due("depth(0)", 120, x.depth(0));
        Cases.due("depth(1)", 300, x.depth(1));
        Cases.due("depth(2)", 50, x.depth(2));

        Cases.quote(6, "Returns the number of layers of a lake.", "Returns the number of layers.");
        Cases.due("layerCount(0)", 3, x.layerCount(0));
        Cases.due("layerCount(1)", 1, x.layerCount(1));
        Cases.due("layerCount(2)", 0, x.layerCount(2));
    }

    private static void questionsAboutLayers() {
        IceBells x = threeHoursLater();
        Cases.quote(7, "Returns the thickness of a layer.", "Returns the thickness in centimetres.");
        Cases.due("thickness(0, 1)", 20, x.thickness(0, 1));
        Cases.due("thickness(1, 0)", 12, x.thickness(1, 0));
        Cases.due("thickness(1, 2)", 33, x.thickness(1, 2));

        Cases.quote(8, "Returns the temperature of a layer.", "Returns the temperature in degrees.");
        Cases.due("temperature(0, 1)", -5, x.temperature(0, 1));
        Cases.due("temperature(1, 0)", -27, x.temperature(1, 0));
        Cases.due("temperature(1, 1)", -16, x.temperature(1, 1));

        Cases.quote(9, "Returns the strain of a layer.", "Returns the strain.");
        Cases.due("strain(0, 0)", 19, x.strain(0, 0));
        Cases.due("strain(0, 1)", 14, x.strain(0, 1));
        Cases.due("strain(1, 0)", 5, x.strain(1, 0));
        Cases.due("strain(1, 1)", 0, x.strain(1, 1));
        Cases.due("strain(1, 2)", 17, x.strain(1, 2));

        Cases.quote(10, "Returns the sum of the thicknesses of all layers of a lake, layer by layer.",
                "Returns the sum in centimetres.");
        Cases.due("iceThickness(0)", 27, x.iceThickness(0));
        Cases.due("iceThickness(1)", 50, x.iceThickness(1));

        Cases.quote(11, "Returns the same sum as iceThickness(), found by halving the row of layers again and again.",
                "Returns the sum in centimetres.");
        Cases.due("iceThicknessByHalves(0)", 27, x.iceThicknessByHalves(0));
        Cases.due("iceThicknessByHalves(1)", 50, x.iceThicknessByHalves(1));

        Cases.quote(12, "Returns the layer of a lake that contains a depth below the top of the ice.",
                "Returns the layer.");
        Cases.due("layerAt(0, 10)", 1, x.layerAt(0, 10));
        Cases.due("layerAt(1, 10)", 0, x.layerAt(1, 10));
        Cases.due("layerAt(1, 14)", 1, x.layerAt(1, 14));
        Cases.due("layerAt(1, 40)", 2, x.layerAt(1, 40));
    }

    private static void weather() {
        IceBells x = twoLakes();
        Cases.quote(13, "Sets the temperature of the air.", "Returns the previous temperature.");
        Cases.due("setAir(4)", -25, x.setAir(4));
        Cases.due("setAir(-25)", 4, x.setAir(-25));

        Cases.quote(14, "Returns the temperature of the air.", "Returns the temperature in degrees.");
        Cases.due("air()", -25, x.air());

        Cases.quote(17, "Returns after how many hours the next crack would happen with the present air, in any lake, by "
                + "letting hours pass on a copy.");
        Cases.due("hoursUntilCrack()", 3, x.hoursUntilCrack());
        Cases.due("hour() on the object itself", 0, x.hour());

        Cases.quote(15, "Lets hours pass.", "Returns the number of cracks in these hours.");
        Cases.due("pass(3)", 2, x.pass(3));
        Cases.due("the temperatures", "-12 -5", Cases.temperatures(x));
        Cases.due("pass(1)", 0, x.pass(1));

        Cases.quote(16, "Returns the number of hours that have passed.", "Returns the number of hours.");
        Cases.due("hour()", 4, x.hour());

        Cases.quote(18, "Returns after how many hours a lake would have no ice any more with the present air, by letting "
                + "hours pass on a copy.");
        IceBells y = Cases.ice(10, Cases.layer(3, -2));
        // It is at 0 degrees after the second hour, and loses its first centimetre then.
        Cases.due("hoursUntilThawed(0)", 4, y.hoursUntilThawed(0));
        Cases.due("iceThickness(0) on the object itself", 3, y.iceThickness(0));
    }

    private static void windows() {
        IceBells x = twoLakes();
        Cases.quote(19, "Returns the number of windows after the call.",
                "Records a thaw window: a range of hours in which the strain of no layer increases.");
        Cases.due("addWindow(20, 30)", 1, x.addWindow(20, 30));
        Cases.due("addWindow(2, 3)", 2, x.addWindow(2, 3));
        x.pass(3);
        Cases.due("the strains", "6 4", Cases.strains(x));

        Cases.quote(21, "Returns the number of thaw windows.", "Returns the number of windows.");
        Cases.due("windowCount()", 2, x.windowCount());

        Cases.quote(22, "Returns the first hour of a thaw window.", "Returns the hour.");
        Cases.due("windowFirst(0)", 2, x.windowFirst(0));
        Cases.due("windowFirst(1)", 20, x.windowFirst(1));

        Cases.quote(23, "Returns the last hour of a thaw window.", "Returns the hour.");
        Cases.due("windowLast(0)", 3, x.windowLast(0));
        Cases.due("windowLast(1)", 30, x.windowLast(1));

        Cases.quote(24, "Returns whether an hour is in a thaw window.", "Returns whether it is in one.");
        Cases.due("isInWindow(3)", true, x.isInWindow(3));
        Cases.due("isInWindow(4)", false, x.isInWindow(4));
        Cases.due("isInWindow(25)", true, x.isInWindow(25));

        Cases.quote(20, "Removes a thaw window.", "Returns the number of windows after the call.");
        Cases.due("removeWindow(0)", 1, x.removeWindow(0));
        Cases.due("the windows", "20-30", Cases.windows(x));
        Cases.due("isInWindow(3)", false, x.isInWindow(3));
    }

    private static void cracks() {
        IceBells x = threeHoursLater();
        Cases.quote(26, "Returns the pitch of a layer.", "Returns the pitch.");
        Cases.due("pitch(0, 1)", 5 + 5, x.pitch(0, 1));
        Cases.due("pitch(1, 1)", 20 + 16, x.pitch(1, 1));

        Cases.quote(25, "Rings a layer by striking it.", "The strike is recorded as a peal.",
                "Returns the pitch of the layer.");
        Cases.due("strike(0, 1)", 5 + 5, x.strike(0, 1));
        Cases.due("strike(1, 2)", 3 + 5, x.strike(1, 2));
        Cases.due("the peals", "s1:8@3 s0:10@3 c1:36@3 c1:35@3", Cases.peals(x));

        Cases.quote(35, "Returns the number of cracks of a lake so far.", "Returns the number of cracks.");
        Cases.due("cracksOf(0)", 0, x.cracksOf(0));
        Cases.due("cracksOf(1)", 2, x.cracksOf(1));
        Cases.due("pass(2)", 3, x.pass(2));
        Cases.due("cracksOf(0)", 2, x.cracksOf(0));
        Cases.due("cracksOf(1)", 3, x.cracksOf(1));

        Cases.quote(39, "Returns the number of cracks of all lakes so far.", "Returns the number of cracks.");
        Cases.due("crackTotal()", 5, x.crackTotal());
    }

    private static void peals() {
        IceBells x = threeHoursLater();
        x.pass(1);
        x.strike(0, 1);
        Cases.quote(27, "Returns the number of recorded peals.");
        Cases.due("pealCount()", 3, x.pealCount());

        Cases.quote(28, "Returns the kind of a recorded peal.", "Returns 'c' for a crack, 's' for a strike.");
        Cases.due("pealKind(0)", 's', x.pealKind(0));
        Cases.due("pealKind(1)", 'c', x.pealKind(1));

        Cases.quote(29, "Returns the lake of a recorded peal.", "Returns the lake.");
        Cases.due("pealLake(0)", 0, x.pealLake(0));
        Cases.due("pealLake(1)", 1, x.pealLake(1));

        Cases.quote(30, "Returns the pitch of a recorded peal.", "Returns the pitch.");
        Cases.due("pealPitch(0)", 5 + 6, x.pealPitch(0));
        Cases.due("pealPitch(1)", 20 + 16, x.pealPitch(1));
        Cases.due("pealPitch(2)", 8 + 27, x.pealPitch(2));

        Cases.quote(31, "Returns the hour of a recorded peal.", "Returns the hour.");
        Cases.due("pealHour(0)", 4, x.pealHour(0));
        Cases.due("pealHour(1)", 3, x.pealHour(1));
    }

    private static void pairsOfPeals() {
        IceBells x = threeHoursLater();
        x.strike(1, 1);
        x.strike(0, 1);
        x.strike(1, 1);
        Cases.due("the peals", "s1:36@3 s0:10@3 s1:36@3 c1:36@3 c1:35@3", Cases.peals(x));

        Cases.quote(32, "Returns the number of pairs of recorded peals with the same pitch, found by comparing all pairs.",
                "Returns the number of pairs.");
        Cases.due("echoPairs()", 3, x.echoPairs());

        Cases.quote(33, "Returns the same number as echoPairs(), found by counting the peals of each pitch.",
                "Returns the number of pairs.");
        Cases.due("echoPairsByPitch()", 3, x.echoPairsByPitch());

        Cases.quote(34, "Returns the number of different pitches among the recorded peals.",
                "Returns the number of pitches.");
        Cases.due("pitchCount()", 3, x.pitchCount());
    }

    private static void totalsAndRanks() {
        Cases.quote(36, "Returns the lake at a rank: the lake with the thicker ice first; of lakes with ice of the same "
                + "thickness the one with more cracks first; then the one with the lower number first.",
                "Returns the lake.");
        IceBells x = twoLakes();
        Cases.due("lakeAtRank(0)", 1, x.lakeAtRank(0));
        Cases.due("lakeAtRank(1)", 0, x.lakeAtRank(1));

        Cases.quote(37, "Returns the sum of the thicknesses of all layers that have grown so far, in all lakes.",
                "Returns the sum in centimetres.");
        Cases.due("frozenTotal()", 27 + 50, x.frozenTotal());

        Cases.quote(38, "Returns the sum of the thicknesses that have thawed so far, in all lakes.",
                "Returns the sum in centimetres.");
        IceBells y = Cases.ice(10, Cases.layer(3, -2));
        y.addLake(200);
        y.freeze(1, 30, 0);
        y.pass(3);
        Cases.due("thawedTotal()", 2 + 3, y.thawedTotal());
        Cases.due("frozenTotal()", 3 + 30, y.frozenTotal());
    }

    private static void commands() {
        IceBells x = twoLakes();
        Cases.quote(40, "Appends a character to the command text.",
                "Returns the length of the command text after the call.");
        String text = "air 7";
        for (int i = 0; i < text.length(); i++) {
            Cases.due("append('" + text.charAt(i) + "')", i + 1, x.append(text.charAt(i)));
        }
        Cases.due("run()", 1, x.run());
        Cases.due("air()", 7, x.air());

        Cases.quote(41, "Parses the command text and carries out its commands in order.",
                "Returns the number of commands.");
        Cases.due("run()", 5, Checks.runText(x, "lake 50;freeze 2 6 -4;air -9;window 7-8;pass 2"));
        Cases.due("run()", 2, Checks.runText(x, "strike 20;open 0"));
        Cases.due("depth(2)", 50, x.depth(2));
        Cases.due("thickness(2, 0)", 6, x.thickness(2, 0));
        Cases.due("temperature(2, 0)", -4, x.temperature(2, 0));
        Cases.due("air()", -9, x.air());
        Cases.due("hour()", 2, x.hour());
        Cases.due("the peals", "s2:20@2", Cases.peals(x));
        Cases.due("windowCount()", 0, x.windowCount());
    }

    private static void refusedCommands() {
        IceBells x = twoLakes();
        Cases.quote(42, "Returns the error position that was set last.", "Returns the error position.");
        Cases.thrown("run() of \"air 5,pass 1\"", Checks.ARGUMENT, () -> Checks.runText(x, "air 5,pass 1"));
        Cases.due("errorPosition()", 5, x.errorPosition());

        Cases.thrown("run() of a strike that fails", Checks.STATE, () -> Checks.runText(x, "air 5;lake 30;strike 20"));
        Cases.quote(43, "Returns the index of the failed command of the latest run in which a command failed.");
        Cases.due("failedCommand()", 2, x.failedCommand());
        Cases.quote(41, "The first command whose method would throw an exception is the failed command.");
        Cases.thrown("run() of two that fail", Checks.STATE, () -> Checks.runText(x, "air 5;lake 19;strike 20"));
        Cases.due("failedCommand()", 1, x.failedCommand());

        Cases.quote(44, "Returns the kind of the exception because of which the failed command of the latest run with a "
                + "failed command failed.", "Returns 'b' for an index out of bounds, 'a' for an illegal argument, 's' for an "
                + "illegal state, 'u' for an unsupported operation.");
        Cases.due("failureKind()", 'a', x.failureKind());
        Cases.thrown("run() of \"strike 20\"", Checks.STATE, () -> Checks.runText(x, "strike 20"));
        Cases.due("failureKind()", 'b', x.failureKind());
        Cases.thrown("run() of \"window 0-1\"", Checks.STATE, () -> Checks.runText(x, "window 0-1"));
        Cases.due("failureKind()", 's', x.failureKind());
        Cases.thrown("run() of \"freeze 0 34 -1\"", Checks.STATE, () -> Checks.runText(x, "freeze 0 34 -1"));
        Cases.due("failureKind()", 'u', x.failureKind());
        Cases.due("air()", -25, x.air());
    }

    private static void line() {
        IceBells x = threeHoursLater();
        Cases.quote(45, "Returns the length of the line.");
        String due = "12/-27 5/-16 33/-5!";
        Cases.due("describeLake(0)", "7/-12! 20/-5!".length(), x.describeLake(0));
        Cases.due("describeLake(1)", due.length(), x.describeLake(1));

        Cases.quote(46, "Returns a character of the line.", "Returns the character.");
        for (int i = 0; i < due.length(); i++) {
            Cases.due("lineAt(" + i + ")", due.charAt(i), x.lineAt(i));
        }
    }

    private static void statistics() {
        IceBells x = twoLakes();
        Cases.quote(47, "Returns the mean temperature of the layers of a lake: the sum divided by the number of layers, both "
                + "converted to double.", "Returns the mean.");
        Cases.due("meanTemperature(0)", -6.0, x.meanTemperature(0));
        Cases.due("meanTemperature(1)", -46.0 / 3.0, x.meanTemperature(1));

        Cases.quote(48, "Returns the share of the depth of a lake that is ice: the thickness of the ice divided by the depth, "
                + "both converted to float.", "Returns the share.");
        Cases.due("iceShare(0)", 27f / 120f, x.iceShare(0));
        Cases.due("iceShare(1)", 50f / 300f, x.iceShare(1));

        Cases.quote(49, "Checks the invariants: iceThickness() equals iceThicknessByHalves() for all lakes; echoPairs() equals "
                + "echoPairsByPitch(); and frozenTotal() minus thawedTotal() is the thickness of all ice.",
                "Returns whether all of them hold.");
        Cases.due("isConsistent()", true, x.isConsistent());
    }

    private static void undoAndSnapshot() {
        IceBells x = twoLakes();
        Cases.quote(50, "Undoes the latest change that has not been undone.",
                "Returns the number of changes that can still be undone.");
        String before = Cases.landscape(x);
        x.pass(3);
        x.strike(0, 0);
        // Eight changes have made the two lakes, so the oldest two of the ten are out of reach.
        Cases.due("undo()", 7, x.undo());
        Cases.due("the peals", "c1:36@3 c1:35@3", Cases.peals(x));
        Cases.due("undo()", 6, x.undo());
        Cases.due("the landscape", before, Cases.landscape(x));

        Cases.quote(51, "Saves everything that changes can change as the snapshot, replacing an earlier snapshot.",
                "Returns the number of lakes.");
        Cases.due("save()", 2, x.save());
        x.addLake(90);
        x.pass(9);

        Cases.quote(52, "Restores the snapshot, which is kept.", "Returns the number of lakes.");
        Cases.due("restore()", 2, x.restore());
        Cases.due("the landscape", before, Cases.landscape(x));
        Cases.thrown("undo()", Checks.STATE, x::undo);
    }
}
