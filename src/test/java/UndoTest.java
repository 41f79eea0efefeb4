/** Promises 50 to 52: undo, save and restore. */
public final class UndoTest {
    private static final Checks CHECKS = new Checks("UndoTest");

    public static void main(String[] args) {
        nothingToUndo();
        everyKindOfChange();
        onlyTheLatestEight();
        changesThatChangeNothing();
        whatIsNoChange();
        failedCallsAreNoChange();
        changesAfterUndo();
        everythingIsUndone();
        everyPealComesBack();
        lakesThatAreGoneLeaveNothing();
        commandTextIsKept();
        noSnapshot();
        snapshotIsKept();
        laterSnapshotReplaces();
        restoreForgetsChanges();
        undoLeavesTheSnapshot();
        CHECKS.finish();
    }

    private static void nothingToUndo() {
        IceBells x = new IceBells();
        CHECKS.thrown(50, "undo()", Checks.STATE, () -> x.undo());
        x.addLake(50);
        CHECKS.due(50, "undo()", 0, x.undo());
        CHECKS.thrown(50, "undo()", Checks.STATE, () -> x.undo());
        CHECKS.due(50, "lakeCount()", 0, x.lakeCount());
    }

    private static void everyKindOfChange() {
        IceBells x = new IceBells();
        x.addLake(50);
        x.freeze(0, 5, -9);
        x.setAir(-7);
        x.pass(2);
        x.addWindow(9, 12);
        x.strike(0, 0);
        x.removeWindow(0);
        Checks.runText(x, "lake 60;air 3");
        CHECKS.due(50, "undo() of run", 7, x.undo());
        CHECKS.due(50, "lakeCount()", 1, x.lakeCount());
        CHECKS.due(50, "air()", -7, x.air());
        CHECKS.due(50, "undo() of removeWindow", 6, x.undo());
        CHECKS.due(50, "windowCount()", 1, x.windowCount());
        CHECKS.due(50, "windowLast(0)", 12, x.windowLast(0));
        CHECKS.due(50, "undo() of strike", 5, x.undo());
        CHECKS.due(50, "pealCount()", 0, x.pealCount());
        CHECKS.due(50, "undo() of addWindow", 4, x.undo());
        CHECKS.due(50, "windowCount()", 0, x.windowCount());
        CHECKS.due(50, "undo() of pass", 3, x.undo());
        CHECKS.due(50, "hour()", 0, x.hour());
        CHECKS.due(50, "temperature(0, 0)", -9, x.temperature(0, 0));
        CHECKS.due(50, "strain(0, 0)", 0, x.strain(0, 0));
        CHECKS.due(50, "undo() of setAir", 2, x.undo());
        CHECKS.due(50, "air()", 0, x.air());
        CHECKS.due(50, "undo() of freeze", 1, x.undo());
        CHECKS.due(50, "layerCount(0)", 0, x.layerCount(0));
        CHECKS.due(50, "frozenTotal()", 0, x.frozenTotal());
        CHECKS.due(50, "undo() of addLake", 0, x.undo());
        CHECKS.due(50, "lakeCount()", 0, x.lakeCount());
    }

    private static void onlyTheLatestEight() {
        IceBells x = new IceBells();
        for (int i = 1; i <= 20; i++) {
            x.setAir(i);
        }
        for (int i = 1; i <= 8; i++) {
            CHECKS.due(50, "undo()", 8 - i, x.undo());
            CHECKS.due(50, "air()", 20 - i, x.air());
        }
        CHECKS.thrown(50, "ninth undo()", Checks.STATE, () -> x.undo());
        CHECKS.due(50, "air()", 12, x.air());
    }

    private static void changesThatChangeNothing() {
        IceBells x = new IceBells();
        x.setAir(5);
        x.setAir(5);
        Checks.runText(x, "air 5");
        CHECKS.due(50, "undo()", 2, x.undo());
        CHECKS.due(50, "undo()", 1, x.undo());
        CHECKS.due(50, "air()", 5, x.air());
        CHECKS.due(50, "undo()", 0, x.undo());
        CHECKS.due(50, "air()", 0, x.air());
    }

    private static void whatIsNoChange() {
        IceBells x = new IceBells();
        x.addLake(50);
        x.freeze(0, 5, -35);
        x.append('a');
        x.save();
        x.describeLake(0);
        x.pitch(0, 0);
        x.hoursUntilCrack();
        x.isConsistent();
        x.echoPairsByPitch();
        CHECKS.due(50, "undo()", 1, x.undo());
        CHECKS.due(50, "layerCount(0)", 0, x.layerCount(0));
    }

    /** A failed change must not push out the oldest of the eight changes either. */
    private static void failedCallsAreNoChange() {
        IceBells x = new IceBells();
        for (int i = 1; i <= 8; i++) {
            x.setAir(i);
        }
        CHECKS.thrown(50, "addLake(1)", Checks.ARGUMENT, () -> x.addLake(1));
        CHECKS.thrown(50, "freeze(0, 1, 0)", Checks.INDEX, () -> x.freeze(0, 1, 0));
        CHECKS.thrown(50, "setAir(99)", Checks.ARGUMENT, () -> x.setAir(99));
        CHECKS.thrown(50, "pass(0)", Checks.ARGUMENT, () -> x.pass(0));
        CHECKS.thrown(50, "addWindow(0, 0)", Checks.STATE, () -> x.addWindow(0, 0));
        CHECKS.thrown(50, "removeWindow(0)", Checks.INDEX, () -> x.removeWindow(0));
        CHECKS.thrown(50, "strike(0, 0)", Checks.INDEX, () -> x.strike(0, 0));
        CHECKS.thrown(50, "run()", Checks.ARGUMENT, () -> x.run());
        CHECKS.thrown(50, "run()", Checks.STATE, () -> Checks.runText(x, "air 9;open 0"));
        CHECKS.thrown(50, "restore()", Checks.STATE, () -> x.restore());
        for (int i = 7; i >= 0; i--) {
            CHECKS.due(50, "undo()", i, x.undo());
            CHECKS.due(50, "air()", i, x.air());
        }
    }

    private static void changesAfterUndo() {
        IceBells x = new IceBells();
        for (int i = 1; i <= 10; i++) {
            x.setAir(i);
        }
        x.undo();
        x.undo();
        x.undo();
        x.setAir(-1);
        CHECKS.due(50, "undo()", 5, x.undo());
        CHECKS.due(50, "air()", 7, x.air());
        CHECKS.due(50, "undo()", 4, x.undo());
        CHECKS.due(50, "air()", 6, x.air());
    }

    private static void everythingIsUndone() {
        IceBells x = new IceBells();
        x.addLake(100);
        x.freeze(0, 2, 0);
        x.freeze(0, 9, -40);
        x.setAir(20);
        x.addWindow(60, 70);
        x.pass(48);
        x.undo();
        CHECKS.due(50, "layerCount(0)", 2, x.layerCount(0));
        CHECKS.due(50, "thickness(0, 0)", 2, x.thickness(0, 0));
        CHECKS.due(50, "temperature(0, 1)", -40, x.temperature(0, 1));
        CHECKS.due(50, "strain(0, 1)", 0, x.strain(0, 1));
        CHECKS.due(50, "cracksOf(0)", 0, x.cracksOf(0));
        CHECKS.due(50, "crackTotal()", 0, x.crackTotal());
        CHECKS.due(50, "thawedTotal()", 0, x.thawedTotal());
        CHECKS.due(50, "frozenTotal()", 11, x.frozenTotal());
        CHECKS.due(50, "pealCount()", 0, x.pealCount());
        CHECKS.due(50, "hour()", 0, x.hour());
        x.pass(1);
        int pitch = x.pealPitch(0);
        for (int i = 0; i < 8; i++) {
            x.strike(0, 1);
        }
        x.pass(1);
        for (int i = 0; i < 8; i++) {
            x.undo();
        }
        CHECKS.due(50, "pealCount()", x.cracksOf(0) + 1, x.pealCount());
        CHECKS.due(50, "pealPitch(1)", pitch, x.pealPitch(1));
    }

    private static String peals(IceBells x) {
        StringBuilder told = new StringBuilder();
        int count = x.pealCount();
        for (int i = 0; i < count; i++) {
            told.append(x.pealKind(i)).append(x.pealLake(i)).append('/').append(x.pealPitch(i)).append('@')
                    .append(x.pealHour(i)).append(' ');
        }
        return told.toString();
    }

    /** Later peals take the place of all sixteen, so that none comes back by merely being counted again. */
    private static void everyPealComesBack() {
        IceBells x = new IceBells();
        x.addLake(200);
        x.addLake(200);
        x.freeze(0, 10, -40);
        x.freeze(0, 20, -30);
        x.freeze(1, 11, -35);
        x.setAir(-40);
        for (int i = 0; i < 9; i++) {
            x.strike(i % 2, 0);
            x.pass(1);
        }
        String before = peals(x);
        CHECKS.due(50, "pealCount()", 16, x.pealCount());
        x.save();
        CHECKS.due(50, "run() of strikes and hours", 5, Checks.runText(x, "strike 01;pass 9;strike 10;pass 9;strike 00"));
        String after = peals(x);
        x.undo();
        CHECKS.due(50, "the peals after undo()", before, peals(x));
        x.pass(20);
        CHECKS.due(50, "the peals differ", false, after.equals(peals(x)) || before.equals(peals(x)));
        x.restore();
        CHECKS.due(52, "the peals after restore()", before, peals(x));
    }

    /** The lake that is added after restore() has the number of one that had ice and cracks. */
    private static void lakesThatAreGoneLeaveNothing() {
        IceBells x = new IceBells();
        x.addLake(100);
        x.setAir(-40);
        x.save();
        x.addLake(100);
        x.freeze(1, 9, -40);
        x.pass(3);
        CHECKS.due(39, "crackTotal()", 3, x.crackTotal());
        x.restore();
        CHECKS.due(52, "lakeCount()", 1, x.lakeCount());
        CHECKS.due(39, "crackTotal()", 0, x.crackTotal());
        CHECKS.due(49, "isConsistent()", true, x.isConsistent());
        CHECKS.due(2, "addLake(50)", 1, x.addLake(50));
        CHECKS.due(5, "depth(1)", 50, x.depth(1));
        CHECKS.due(6, "layerCount(1)", 0, x.layerCount(1));
        CHECKS.due(35, "cracksOf(1)", 0, x.cracksOf(1));
    }

    private static void commandTextIsKept() {
        IceBells x = new IceBells();
        x.setAir(3);
        x.save();
        Checks.type(x, "air ");
        x.undo();
        x.append('7');
        x.restore();
        CHECKS.due(50, "append(';')", 6, x.append(';'));
        Checks.type(x, "lake 30");
        CHECKS.due(50, "run()", 2, x.run());
        CHECKS.due(50, "air()", 7, x.air());
    }

    private static void noSnapshot() {
        IceBells x = new IceBells();
        CHECKS.thrown(52, "restore()", Checks.STATE, () -> x.restore());
        CHECKS.due(51, "save()", 0, x.save());
        x.addLake(20);
        x.addLake(30);
        CHECKS.due(51, "save()", 2, x.save());
    }

    private static void snapshotIsKept() {
        IceBells x = new IceBells();
        x.addLake(200);
        x.freeze(0, 10, -40);
        x.setAir(-40);
        x.addWindow(30, 40);
        x.pass(2);
        x.strike(0, 0);
        x.save();
        int peals = x.pealCount();
        int strain = x.strain(0, 0);
        for (int i = 0; i < 3; i++) {
            x.addLake(50);
            x.setAir(20);
            x.pass(48);
            x.removeWindow(0);
            CHECKS.due(52, "restore()", 1, x.restore());
            CHECKS.due(52, "lakeCount()", 1, x.lakeCount());
            CHECKS.due(52, "hour()", 2, x.hour());
            CHECKS.due(52, "air()", -40, x.air());
            CHECKS.due(52, "windowCount()", 1, x.windowCount());
            CHECKS.due(52, "temperature(0, 0)", -38, x.temperature(0, 0));
            CHECKS.due(52, "strain(0, 0)", strain, x.strain(0, 0));
            CHECKS.due(52, "pealCount()", peals, x.pealCount());
            CHECKS.due(52, "pealKind(0)", 's', x.pealKind(0));
            CHECKS.due(52, "crackTotal()", 2, x.crackTotal());
            CHECKS.due(52, "frozenTotal()", 10, x.frozenTotal());
            CHECKS.due(52, "thawedTotal()", 0, x.thawedTotal());
        }
    }

    private static void laterSnapshotReplaces() {
        IceBells x = new IceBells();
        x.setAir(1);
        x.save();
        x.setAir(2);
        x.save();
        x.setAir(3);
        x.restore();
        CHECKS.due(51, "air()", 2, x.air());
    }

    private static void restoreForgetsChanges() {
        IceBells x = new IceBells();
        x.setAir(1);
        x.save();
        x.setAir(2);
        x.restore();
        CHECKS.thrown(52, "undo() after restore()", Checks.STATE, () -> x.undo());
        x.setAir(3);
        CHECKS.due(52, "undo()", 0, x.undo());
        CHECKS.due(52, "air()", 1, x.air());
    }

    private static void undoLeavesTheSnapshot() {
        IceBells x = new IceBells();
        x.setAir(1);
        x.setAir(2);
        x.save();
        CHECKS.due(51, "undo() after save()", 1, x.undo());
        CHECKS.due(51, "air()", 1, x.air());
        x.restore();
        CHECKS.due(52, "air()", 2, x.air());
    }
}
