/** The boundary cases of changes: "Changes" of the terms, and promises 50 to 52. */
final class ChangeEdges {
    private static final String CHANGE = "A change is a successful call of addLake, freeze, setAir, pass, "
            + "addWindow, removeWindow, strike or run.";
    private static final String LATEST_EIGHT = "The latest 8 changes can be undone, the latest one first.";
    private static final String EVERYTHING_ELSE = "Everything else is.";
    private static final String SNAPSHOT = "Saves everything that changes can change as the snapshot, replacing an "
            + "earlier snapshot.";

    private ChangeEdges() {
    }

    static void all() {
        everyKindOfChange();
        callsThatAreNoChanges();
        refusedCallsAreNoChanges();
        changesThatChangeNothing();
        manyCommandsAreOneChange();
        theNinthChange();
        everyKindAsTheNinth();
        theLatestFirst();
        textIsNotUndone();
        textIsNotSaved();
        errorsAreNotUndone();
        errorsAreNotSaved();
        lineIsNotUndone();
        lineIsNotSaved();
        everythingElseIsUndone();
        everythingElseIsSaved();
        fullLandscapeIsUndoneAndSaved();
        undoneChangesAreGone();
        undoCounts();
        nothingToUndo();
        laterSnapshot();
        snapshotOfNothing();
        snapshotIsNoChange();
        snapshotIsKept();
        noUndoAfterRestore();
        noSnapshot();
    }

    private interface Change {
        void make(IceBells x);
    }

    private static final String[] NAMES = {"addLake", "freeze", "setAir", "pass", "addWindow", "removeWindow", "strike",
        "run"};

    private static final Change[] CHANGES = {
        x -> x.addLake(60),
        x -> x.freeze(0, 5, -5),
        x -> x.setAir(3),
        x -> x.pass(2),
        x -> x.addWindow(20, 30),
        x -> x.removeWindow(0),
        x -> x.strike(0, 0),
        x -> Checks.runText(x, "lake 70;air 4"),
    };

    /** One lake with ice and one window, and no change that can be undone. */
    private static IceBells withoutChanges() {
        IceBells x = Cases.ice(-7, Cases.layer(9, -30));
        x.addWindow(9, 12);
        x.save();
        x.restore();
        return x;
    }

    private static void everyKindOfChange() {
        Cases.quote(0, CHANGE);
        for (int i = 0; i < CHANGES.length; i++) {
            IceBells x = withoutChanges();
            String before = Cases.landscape(x);
            CHANGES[i].make(x);
            Cases.due(NAMES[i] + " changes the landscape", false, before.equals(Cases.landscape(x)));
            Cases.due("undo() of " + NAMES[i], 0, x.undo());
            Cases.due("the landscape after undo() of " + NAMES[i], before, Cases.landscape(x));
            Cases.thrown("undo() behind " + NAMES[i], Checks.STATE, () -> x.undo());
        }
    }

    private static void callsThatAreNoChanges() {
        Cases.quote(0, CHANGE);
        IceBells x = withoutChanges();
        Cases.landscape(x);
        x.iceThickness(0);
        x.iceThicknessByHalves(0);
        x.layerAt(0, 0);
        x.hoursUntilCrack();
        Cases.thrown("hoursUntilThawed(0)", Checks.NO_ELEMENT, () -> x.hoursUntilThawed(0));
        x.isInWindow(10);
        x.pitch(0, 0);
        x.echoPairs();
        x.echoPairsByPitch();
        x.pitchCount();
        x.lakeAtRank(0);
        x.append('a');
        x.describeLake(0);
        x.lineAt(0);
        x.meanTemperature(0);
        x.iceShare(0);
        x.isConsistent();
        x.save();
        Cases.thrown("undo() behind calls that are no changes", Checks.STATE, () -> x.undo());
        x.restore();
        Cases.thrown("undo() behind restore()", Checks.STATE, () -> x.undo());
    }

    private static void refusedCallsAreNoChanges() {
        Cases.quote(0, CHANGE);
        IceBells x = withoutChanges();
        Cases.thrown("addLake(19)", Checks.ARGUMENT, () -> x.addLake(19));
        Cases.thrown("freeze(1, 5, -5)", Checks.INDEX, () -> x.freeze(1, 5, -5));
        Cases.thrown("setAir(21)", Checks.ARGUMENT, () -> x.setAir(21));
        Cases.thrown("pass(49)", Checks.ARGUMENT, () -> x.pass(49));
        Cases.thrown("addWindow(10, 11)", Checks.UNSUPPORTED, () -> x.addWindow(10, 11));
        Cases.thrown("removeWindow(1)", Checks.INDEX, () -> x.removeWindow(1));
        Cases.thrown("strike(0, 1)", Checks.INDEX, () -> x.strike(0, 1));
        Cases.thrown("run() of the empty text", Checks.ARGUMENT, () -> x.run());
        Cases.thrown("run() of a command that fails", Checks.STATE, () -> Checks.runText(x, "air 1;open 1"));
        Cases.thrown("undo()", Checks.STATE, () -> x.undo());
    }

    private static void changesThatChangeNothing() {
        Cases.quote(0, "A successful call is a change even if nothing differs afterwards.");
        IceBells x = withoutChanges();
        Cases.due("setAir(-7)", -7, x.setAir(-7));
        Cases.due("run()", 1, Checks.runText(x, "air -7"));
        Cases.due("run()", 2, Checks.runText(x, "window 1-2;open 0"));
        Cases.due("undo()", 2, x.undo());
        Cases.due("undo()", 1, x.undo());
        Cases.due("undo()", 0, x.undo());
        Cases.thrown("undo()", Checks.STATE, () -> x.undo());
        // A change that changes nothing takes the place of one that can be undone, too.
        for (int i = 1; i <= 8; i++) {
            x.setAir(i);
        }
        x.setAir(8);
        for (int i = 7; i >= 0; i--) {
            Cases.due("undo()", i, x.undo());
        }
        Cases.due("air() of the first change, which can't be undone", 1, x.air());
    }

    private static void manyCommandsAreOneChange() {
        Cases.quote(0, "A call of run that carries out several commands is one change.");
        IceBells x = withoutChanges();
        String before = Cases.landscape(x);
        Cases.due("run()", 10, Checks.runText(x, "air 1;air 2;air 3;air 4;air 5;air 6;air 7;air 8;air 9;air 10"));
        Cases.due("undo()", 0, x.undo());
        Cases.due("the landscape", before, Cases.landscape(x));
        x.setAir(5);
        Cases.due("run()", 6, Checks.runText(x, "lake 50;freeze 1 9 -9;strike 10;open 0;pass 9;window 90-91"));
        Cases.due("undo()", 1, x.undo());
        Cases.due("undo()", 0, x.undo());
        Cases.due("the landscape", before, Cases.landscape(x));
    }

    private static void theNinthChange() {
        Cases.quote(0, LATEST_EIGHT);
        for (int count = 7; count <= 20; count++) {
            IceBells x = new IceBells();
            for (int i = 1; i <= count; i++) {
                x.setAir(i);
            }
            int undoable = Math.min(count, 8);
            for (int i = 1; i <= undoable; i++) {
                Cases.due("undo() of " + count + " changes", undoable - i, x.undo());
            }
            Cases.thrown("undo() of " + count + " changes, once more", Checks.STATE, () -> x.undo());
            Cases.due("air() after all undo()s of " + count, count - undoable, x.air());
        }
    }

    private static void everyKindAsTheNinth() {
        Cases.quote(0, LATEST_EIGHT);
        for (int i = 0; i < CHANGES.length; i++) {
            IceBells x = withoutChanges();
            for (int degrees = 11; degrees <= 18; degrees++) {
                x.setAir(degrees);
            }
            CHANGES[i].make(x);
            Cases.due("undo() of " + NAMES[i], 7, x.undo());
            Cases.due("air()", 18, x.air());
            for (int k = 6; k >= 0; k--) {
                Cases.due("undo() behind " + NAMES[i], k, x.undo());
            }
            Cases.due("air() behind " + NAMES[i], 11, x.air());
            Cases.thrown("ninth undo() behind " + NAMES[i], Checks.STATE, () -> x.undo());
        }
    }

    private static void theLatestFirst() {
        Cases.quote(0, LATEST_EIGHT);
        IceBells x = withoutChanges();
        String[] before = new String[8];
        for (int i = 0; i < 8; i++) {
            before[i] = Cases.landscape(x);
            CHANGES[i].make(x);
        }
        for (int i = 7; i >= 0; i--) {
            Cases.due("undo() of " + NAMES[i], i, x.undo());
            Cases.due("the landscape after undo() of " + NAMES[i], before[i], Cases.landscape(x));
        }
    }

    private static final String NEITHER = "The command text, the error position, the failed command and the kind of its "
            + "exception, and the line are neither undone nor saved.";

    private static void textIsNotUndone() {
        Cases.quote(0, NEITHER);
        IceBells x = new IceBells();
        x.append('a');
        x.setAir(3);
        Checks.type(x, "ir ");
        x.undo();
        Cases.due("append('7') after undo()", 5, x.append('7'));
        Cases.due("run()", 1, x.run());
        Cases.due("air()", 7, x.air());
        x.undo();
        // The text that has been run does not come back.
        Cases.due("append('x') after undo() of run()", 1, x.append('x'));
    }

    private static void textIsNotSaved() {
        Cases.quote(0, NEITHER);
        IceBells x = new IceBells();
        Checks.type(x, "air ");
        x.save();
        x.append('7');
        x.restore();
        Cases.due("append('1') after restore()", 6, x.append('1'));
        Cases.thrown("run() of \"air 71\"", Checks.STATE, () -> x.run());
        x.restore();
        Cases.due("append('x') after restore()", 1, x.append('x'));
    }

    /** An error position of 4, and a failed command 1 of kind 'a'. */
    private static void failTwice(IceBells x) {
        Cases.thrown("run() of \"air x\"", Checks.ARGUMENT, () -> Checks.runText(x, "air x"));
        Cases.thrown("run() of \"air 1;pass 0\"", Checks.STATE, () -> Checks.runText(x, "air 1;pass 0"));
    }

    private static void errorsAre(IceBells x, String when, int position, int command, char kind) {
        Cases.due("errorPosition() " + when, position, x.errorPosition());
        Cases.due("failedCommand() " + when, command, x.failedCommand());
        Cases.due("failureKind() " + when, kind, x.failureKind());
    }

    private static void errorsAreNotUndone() {
        Cases.quote(0, NEITHER);
        IceBells x = new IceBells();
        x.setAir(3);
        failTwice(x);
        x.undo();
        errorsAre(x, "after undo() of a change before", 4, 1, 'a');
        x.setAir(3);
        Cases.thrown("run() of \"\"", Checks.ARGUMENT, () -> x.run());
        Cases.thrown("run() of \"open 0\"", Checks.STATE, () -> Checks.runText(x, "open 0"));
        x.undo();
        errorsAre(x, "after undo() once more", 0, 0, 'b');
    }

    private static void errorsAreNotSaved() {
        Cases.quote(0, NEITHER);
        IceBells x = new IceBells();
        x.save();
        failTwice(x);
        x.restore();
        errorsAre(x, "after restore() of what was saved before", 4, 1, 'a');
        x.save();
        Cases.thrown("run() of \"\"", Checks.ARGUMENT, () -> x.run());
        Cases.thrown("run() of \"open 0\"", Checks.STATE, () -> Checks.runText(x, "open 0"));
        x.restore();
        errorsAre(x, "after restore() of what was saved between", 0, 0, 'b');
    }

    private static void lineIsNotUndone() {
        Cases.quote(0, NEITHER);
        IceBells x = Cases.ice(0, Cases.layer(5, -12));
        Cases.due("describeLake(0)", 5, x.describeLake(0));
        x.undo();
        Cases.due("the line after undo()", "5/-12", Checks.line(x, 5));
        Cases.due("describeLake(0)", 0, x.describeLake(0));
        x.freeze(0, 6, -9);
        x.undo();
        Cases.thrown("lineAt(0) after undo()", Checks.INDEX, () -> x.lineAt(0));
    }

    private static void lineIsNotSaved() {
        Cases.quote(0, NEITHER);
        IceBells x = Cases.ice(0, Cases.layer(5, -12));
        x.save();
        x.describeLake(0);
        x.restore();
        Cases.due("the line after restore()", "5/-12", Checks.line(x, 5));
        x.save();
        x.freeze(0, 6, -9);
        x.describeLake(0);
        x.restore();
        Cases.due("the line after restore()", "5/-12 6/-9", Checks.line(x, 10));
        Cases.thrown("lineAt(10)", Checks.INDEX, () -> x.lineAt(10));
    }

    /** A layer at 0 over a cold one, and a second lake; two windows, three peals, and cracks and thawing to come. */
    private static IceBells lively() {
        IceBells x = Cases.ice(20, Cases.layer(2, 0), Cases.layer(9, -40));
        x.addLake(100);
        x.freeze(1, 7, -31);
        x.addWindow(40, 45);
        x.addWindow(2, 3);
        x.strike(1, 0);
        x.pass(1);
        return x;
    }

    private static void sevenChanges(IceBells x) {
        x.pass(48);
        x.removeWindow(0);
        x.addWindow(60, 61);
        x.freeze(0, 5, -5);
        x.addLake(50);
        x.strike(0, 0);
        x.setAir(-3);
    }

    private static void everythingElseIsUndone() {
        Cases.quote(0, EVERYTHING_ELSE);
        IceBells x = lively();
        String before = Cases.landscape(x);
        sevenChanges(x);
        for (int i = 0; i < 7; i++) {
            x.undo();
        }
        Cases.due("the landscape", before, Cases.landscape(x));
        x.pass(20);
        String later = Cases.landscape(x);
        x.undo();
        x.pass(20);
        Cases.due("the landscape 20 hours later", later, Cases.landscape(x));
    }

    private static void everythingElseIsSaved() {
        Cases.quote(0, EVERYTHING_ELSE);
        IceBells x = lively();
        String before = Cases.landscape(x);
        Cases.due("save()", 2, x.save());
        sevenChanges(x);
        Cases.due("restore()", 2, x.restore());
        Cases.due("the landscape", before, Cases.landscape(x));
        x.pass(20);
        String later = Cases.landscape(x);
        x.restore();
        x.pass(20);
        Cases.due("the landscape 20 hours later", later, Cases.landscape(x));
    }

    private static IceBells full() {
        IceBells x = Cases.lakes(100, 100, 100, 100, 100);
        for (int i = 0; i < 8; i++) {
            x.freeze(4, 1 + i, -40 + i);
        }
        for (int i = 1; i <= 6; i++) {
            x.addWindow(10 * i, 10 * i + 5);
        }
        for (int i = 0; i < 16; i++) {
            x.strike(4, i % 8);
        }
        return x;
    }

    private static void fullLandscapeIsUndoneAndSaved() {
        Cases.quote(0, EVERYTHING_ELSE);
        String before = Cases.landscape(full());
        IceBells x = full();
        Cases.due("save()", 5, x.save());
        Cases.due("run()", 4, Checks.runText(x, "air 20;pass 48;pass 48;open 5"));
        Cases.due("undo()", 7, x.undo());
        Cases.due("the landscape after undo()", before, Cases.landscape(x));
        x.setAir(20);
        x.pass(48);
        x.removeWindow(0);
        Cases.due("restore()", 5, x.restore());
        Cases.due("the landscape after restore()", before, Cases.landscape(x));
    }

    private static void undoneChangesAreGone() {
        Cases.quote(50, "Undoes the latest change that has not been undone.");
        IceBells x = new IceBells();
        for (int i = 1; i <= 10; i++) {
            x.setAir(i);
        }
        Cases.due("undo()", 7, x.undo());
        Cases.due("undo()", 6, x.undo());
        Cases.due("air()", 8, x.air());
        x.setAir(-1);
        x.setAir(-2);
        x.setAir(-3);
        Cases.due("undo()", 7, x.undo());
        Cases.due("air()", -2, x.air());
        Cases.due("undo()", 6, x.undo());
        Cases.due("undo()", 5, x.undo());
        Cases.due("air() before the new changes", 8, x.air());
        Cases.due("undo()", 4, x.undo());
        Cases.due("air() before the change before the undone ones", 7, x.air());
    }

    private static void undoCounts() {
        Cases.quote(50, "Returns the number of changes that can still be undone.");
        IceBells x = new IceBells();
        x.setAir(1);
        Cases.due("undo() of the only change", 0, x.undo());
        x.setAir(1);
        x.setAir(2);
        Cases.due("undo() of the second change", 1, x.undo());
        x.setAir(2);
        Cases.due("undo() of the second change", 1, x.undo());
    }

    private static void nothingToUndo() {
        Cases.quote(50, "Throws `IllegalStateException` if there is no change to undo");
        IceBells x = new IceBells();
        Cases.thrown("undo() of a new object", Checks.STATE, () -> x.undo());
        x.save();
        Cases.thrown("undo() of save()", Checks.STATE, () -> x.undo());
        x.setAir(3);
        x.undo();
        Cases.thrown("undo() of what has been undone", Checks.STATE, () -> x.undo());
        Cases.thrown("undo() once more", Checks.STATE, () -> x.undo());
        x.setAir(4);
        Cases.due("undo() of a later change", 0, x.undo());
        Cases.due("air()", 0, x.air());
    }

    private static void laterSnapshot() {
        Cases.quote(51, SNAPSHOT);
        IceBells x = lively();
        x.save();
        x.pass(9);
        x.addLake(30);
        String before = Cases.landscape(x);
        Cases.due("save()", 3, x.save());
        x.undo();
        x.undo();
        Cases.due("restore()", 3, x.restore());
        Cases.due("the landscape", before, Cases.landscape(x));
    }

    private static void snapshotOfNothing() {
        Cases.quote(51, SNAPSHOT);
        IceBells x = new IceBells();
        String before = Cases.landscape(x);
        Cases.due("save() without lakes", 0, x.save());
        x.addLake(100);
        x.freeze(0, 9, -40);
        x.addWindow(7, 8);
        x.strike(0, 0);
        x.pass(3);
        Cases.due("restore()", 0, x.restore());
        Cases.due("the landscape", before, Cases.landscape(x));
        Cases.due("addLake(70)", 0, x.addLake(70));
        Cases.due("layerCount(0)", 0, x.layerCount(0));
        Cases.due("cracksOf(0)", 0, x.cracksOf(0));
    }

    private static void snapshotIsNoChange() {
        Cases.quote(51, SNAPSHOT);
        IceBells x = new IceBells();
        x.setAir(1);
        x.setAir(2);
        x.save();
        Cases.due("undo() after save()", 1, x.undo());
        Cases.due("air()", 1, x.air());
        Cases.due("undo()", 0, x.undo());
        x.restore();
        Cases.due("air(), as the snapshot is not undone", 2, x.air());
    }

    private static void snapshotIsKept() {
        Cases.quote(52, "Restores the snapshot, which is kept.");
        IceBells x = lively();
        String before = Cases.landscape(x);
        x.save();
        for (int i = 0; i < 3; i++) {
            x.pass(10);
            x.removeWindow(1);
            x.strike(1, 0);
            Cases.due("restore()", 2, x.restore());
            Cases.due("the landscape", before, Cases.landscape(x));
        }
        Cases.due("restore() at once", 2, x.restore());
        Cases.due("the landscape", before, Cases.landscape(x));
    }

    private static void noUndoAfterRestore() {
        Cases.quote(52, "After the call no change can be undone.");
        IceBells x = new IceBells();
        for (int i = 1; i <= 5; i++) {
            x.setAir(i);
        }
        x.save();
        for (int i = 6; i <= 9; i++) {
            x.setAir(i);
        }
        x.restore();
        Cases.thrown("undo() after restore()", Checks.STATE, () -> x.undo());
        Cases.due("air()", 5, x.air());
        for (int i = 10; i <= 19; i++) {
            x.setAir(i);
        }
        for (int i = 7; i >= 0; i--) {
            Cases.due("undo() of later changes", i, x.undo());
            Cases.due("air()", 12 + i - 1, x.air());
        }
        x.restore();
        x.setAir(20);
        Cases.due("undo() of the only change after restore()", 0, x.undo());
        Cases.due("air()", 5, x.air());
        Cases.thrown("undo()", Checks.STATE, () -> x.undo());
    }

    private static void noSnapshot() {
        Cases.quote(52, "Throws `IllegalStateException` if there is no snapshot");
        IceBells x = new IceBells();
        Cases.thrown("restore() of a new object", Checks.STATE, () -> x.restore());
        x.setAir(3);
        Cases.thrown("restore() without save()", Checks.STATE, () -> x.restore());
        Cases.due("undo() after the refused call", 0, x.undo());
        x.save();
        Cases.due("restore()", 0, x.restore());
    }
}
