/** The boundary cases of changes: "Changes" of the terms, and promises 50 to 52. */
final class ChangeEdges {
    private static final String CHANGE = "A change is a successful call of addLake, freeze, setAir, pass, "
            + "addWindow, removeWindow, strike or run.";
    private static final String LATEST_EIGHT = "The latest 8 changes can be undone, the latest one first.";
    private static final String EVERYTHING_ELSE = "Everything else is.";
    private static final String SNAPSHOT = "Saves everything that changes can change as the snapshot, replacing an "
            + "earlier snapshot.";

    private ChangeEdges() {
    }

    static void all() {
        everyKindOfChange();
        callsThatAreNoChanges();
        refusedCallsAreNoChanges();
        changesThatChangeNothing();
        manyCommandsAreOneChange();
        theNinthChange();
        everyKindAsTheNinth();
        theLatestFirst();
        textIsNotUndone();
        textIsNotSaved();
        errorsAreNotUndone();
        errorsAreNotSaved();
        lineIsNotUndone();
        lineIsNotSaved();
        everythingElseIsUndone();
        everythingElseIsSaved();
        fullLandscapeIsUndoneAndSaved();
        undoneChangesAreGone();
        undoCounts();
        nothingToUndo();
        laterSnapshot();
        snapshotOfNothing();
        snapshotIsNoChange();
        snapshotIsKept();
        noUndoAfterRestore();
        noSnapshot();
    }

    private interface Change {
        void make(IceBells x);
    }

    private static final String[] NAMES = {"addLake", "freeze", "setAir", "pass", "addWindow", "removeWindow", "strike",
        "run"};

    private static final Change[] CHANGES = {
        x -> x.addLake(60),
        x -> x.freeze(0, 5, -5),
        x -> x.setAir(3),
        x -> x.pass(2),
        x -> x.addWindow(20, 30),
        x -> x.removeWindow(0),
        x -> x.strike(0, 0),
        x -> Checks.runText(x, "lake 70;air 4"),
    };

    /** One lake with ice and one window, and no change that can be undone. */
    private static IceBells withoutChanges() {
        IceBells x = Edges.ice(-7, Edges.layer(9, -30));
        x.addWindow(9, 12);
        x.save();
        x.restore();
        return x;
    }

    private static void everyKindOfChange() {
        Edges.quote(0, CHANGE);
        for (int i = 0; i < CHANGES.length; i++) {
            IceBells x = withoutChanges();
            String before = Edges.landscape(x);
            CHANGES[i].make(x);
            Edges.due(NAMES[i] + " changes the landscape", false, before.equals(Edges.landscape(x)));
            Edges.due("undo() of " + NAMES[i], 0, x.undo());
            Edges.due("the landscape after undo() of " + NAMES[i], before, Edges.landscape(x));
            Edges.thrown("undo() behind " + NAMES[i], Checks.STATE, () -> x.undo());
        }
    }

    private static void callsThatAreNoChanges() {
        Edges.quote(0, CHANGE);
        IceBells x = withoutChanges();
        Edges.landscape(x);
        x.iceThickness(0);
        x.iceThicknessByHalves(0);
        x.layerAt(0, 0);
        x.hoursUntilCrack();
        Edges.thrown("hoursUntilThawed(0)", Checks.NO_ELEMENT, () -> x.hoursUntilThawed(0));
        x.isInWindow(10);
        x.pitch(0, 0);
        x.echoPairs();
        x.echoPairsByPitch();
        x.pitchCount();
        x.lakeAtRank(0);
        x.append('a');
        x.describeLake(0);
        x.lineAt(0);
        x.meanTemperature(0);
        x.iceShare(0);
        x.isConsistent();
        x.save();
        Edges.thrown("undo() behind calls that are no changes", Checks.STATE, () -> x.undo());
        x.restore();
        Edges.thrown("undo() behind restore()", Checks.STATE, () -> x.undo());
    }

    private static void refusedCallsAreNoChanges() {
        Edges.quote(0, CHANGE);
        IceBells x = withoutChanges();
        Edges.thrown("addLake(19)", Checks.ARGUMENT, () -> x.addLake(19));
        Edges.thrown("freeze(1, 5, -5)", Checks.INDEX, () -> x.freeze(1, 5, -5));
        Edges.thrown("setAir(21)", Checks.ARGUMENT, () -> x.setAir(21));
        Edges.thrown("pass(49)", Checks.ARGUMENT, () -> x.pass(49));
        Edges.thrown("addWindow(10, 11)", Checks.UNSUPPORTED, () -> x.addWindow(10, 11));
        Edges.thrown("removeWindow(1)", Checks.INDEX, () -> x.removeWindow(1));
        Edges.thrown("strike(0, 1)", Checks.INDEX, () -> x.strike(0, 1));
        Edges.thrown("run() of the empty text", Checks.ARGUMENT, () -> x.run());
        Edges.thrown("run() of a command that fails", Checks.STATE, () -> Checks.runText(x, "air 1;open 1"));
        Edges.thrown("undo()", Checks.STATE, () -> x.undo());
    }

    private static void changesThatChangeNothing() {
        Edges.quote(0, "A successful call is a change even if nothing differs afterwards.");
        IceBells x = withoutChanges();
        Edges.due("setAir(-7)", -7, x.setAir(-7));
        Edges.due("run()", 1, Checks.runText(x, "air -7"));
        Edges.due("run()", 2, Checks.runText(x, "window 1-2;open 0"));
        Edges.due("undo()", 2, x.undo());
        Edges.due("undo()", 1, x.undo());
        Edges.due("undo()", 0, x.undo());
        Edges.thrown("undo()", Checks.STATE, () -> x.undo());
        // A change that changes nothing takes the place of one that can be undone, too.
        for (int i = 1; i <= 8; i++) {
            x.setAir(i);
        }
        x.setAir(8);
        for (int i = 7; i >= 0; i--) {
            Edges.due("undo()", i, x.undo());
        }
        Edges.due("air() of the first change, which can't be undone", 1, x.air());
    }

    private static void manyCommandsAreOneChange() {
        Edges.quote(0, "A call of run that carries out several commands is one change.");
        IceBells x = withoutChanges();
        String before = Edges.landscape(x);
        Edges.due("run()", 10, Checks.runText(x, "air 1;air 2;air 3;air 4;air 5;air 6;air 7;air 8;air 9;air 10"));
        Edges.due("undo()", 0, x.undo());
        Edges.due("the landscape", before, Edges.landscape(x));
        x.setAir(5);
        Edges.due("run()", 6, Checks.runText(x, "lake 50;freeze 1 9 -9;strike 10;open 0;pass 9;window 90-91"));
        Edges.due("undo()", 1, x.undo());
        Edges.due("undo()", 0, x.undo());
        Edges.due("the landscape", before, Edges.landscape(x));
    }

    private static void theNinthChange() {
        Edges.quote(0, LATEST_EIGHT);
        for (int count = 7; count <= 20; count++) {
            IceBells x = new IceBells();
            for (int i = 1; i <= count; i++) {
                x.setAir(i);
            }
            int undoable = Math.min(count, 8);
            for (int i = 1; i <= undoable; i++) {
                Edges.due("undo() of " + count + " changes", undoable - i, x.undo());
            }
            Edges.thrown("undo() of " + count + " changes, once more", Checks.STATE, () -> x.undo());
            Edges.due("air() after all undo()s of " + count, count - undoable, x.air());
        }
    }

    private static void everyKindAsTheNinth() {
        Edges.quote(0, LATEST_EIGHT);
        for (int i = 0; i < CHANGES.length; i++) {
            IceBells x = withoutChanges();
            for (int degrees = 11; degrees <= 18; degrees++) {
                x.setAir(degrees);
            }
            CHANGES[i].make(x);
            Edges.due("undo() of " + NAMES[i], 7, x.undo());
            Edges.due("air()", 18, x.air());
            for (int k = 6; k >= 0; k--) {
                Edges.due("undo() behind " + NAMES[i], k, x.undo());
            }
            Edges.due("air() behind " + NAMES[i], 11, x.air());
            Edges.thrown("ninth undo() behind " + NAMES[i], Checks.STATE, () -> x.undo());
        }
    }

    private static void theLatestFirst() {
        Edges.quote(0, LATEST_EIGHT);
        IceBells x = withoutChanges();
        String[] before = new String[8];
        for (int i = 0; i < 8; i++) {
            before[i] = Edges.landscape(x);
            CHANGES[i].make(x);
        }
        for (int i = 7; i >= 0; i--) {
            Edges.due("undo() of " + NAMES[i], i, x.undo());
            Edges.due("the landscape after undo() of " + NAMES[i], before[i], Edges.landscape(x));
        }
    }

    private static final String NEITHER = "The command text, the error position, the failed command and the kind of its "
            + "exception, and the line are neither undone nor saved.";

    private static void textIsNotUndone() {
        Edges.quote(0, NEITHER);
        IceBells x = new IceBells();
        x.append('a');
        x.setAir(3);
        Checks.type(x, "ir ");
        x.undo();
        Edges.due("append('7') after undo()", 5, x.append('7'));
        Edges.due("run()", 1, x.run());
        Edges.due("air()", 7, x.air());
        x.undo();
        // The text that has been run does not come back.
        Edges.due("append('x') after undo() of run()", 1, x.append('x'));
    }

    private static void textIsNotSaved() {
        Edges.quote(0, NEITHER);
        IceBells x = new IceBells();
        Checks.type(x, "air ");
        x.save();
        x.append('7');
        x.restore();
        Edges.due("append('1') after restore()", 6, x.append('1'));
        Edges.thrown("run() of \"air 71\"", Checks.STATE, () -> x.run());
        x.restore();
        Edges.due("append('x') after restore()", 1, x.append('x'));
    }

    /** An error position of 4, and a failed command 1 of kind 'a'. */
    private static void failTwice(IceBells x) {
        Edges.thrown("run() of \"air x\"", Checks.ARGUMENT, () -> Checks.runText(x, "air x"));
        Edges.thrown("run() of \"air 1;pass 0\"", Checks.STATE, () -> Checks.runText(x, "air 1;pass 0"));
    }

    private static void errorsAre(IceBells x, String when, int position, int command, char kind) {
        Edges.due("errorPosition() " + when, position, x.errorPosition());
        Edges.due("failedCommand() " + when, command, x.failedCommand());
        Edges.due("failureKind() " + when, kind, x.failureKind());
    }

    private static void errorsAreNotUndone() {
        Edges.quote(0, NEITHER);
        IceBells x = new IceBells();
        x.setAir(3);
        failTwice(x);
        x.undo();
        errorsAre(x, "after undo() of a change before", 4, 1, 'a');
        x.setAir(3);
        Edges.thrown("run() of \"\"", Checks.ARGUMENT, () -> x.run());
        Edges.thrown("run() of \"open 0\"", Checks.STATE, () -> Checks.runText(x, "open 0"));
        x.undo();
        errorsAre(x, "after undo() once more", 0, 0, 'b');
    }

    private static void errorsAreNotSaved() {
        Edges.quote(0, NEITHER);
        IceBells x = new IceBells();
        x.save();
        failTwice(x);
        x.restore();
        errorsAre(x, "after restore() of what was saved before", 4, 1, 'a');
        x.save();
        Edges.thrown("run() of \"\"", Checks.ARGUMENT, () -> x.run());
        Edges.thrown("run() of \"open 0\"", Checks.STATE, () -> Checks.runText(x, "open 0"));
        x.restore();
        errorsAre(x, "after restore() of what was saved between", 0, 0, 'b');
    }

    private static void lineIsNotUndone() {
        Edges.quote(0, NEITHER);
        IceBells x = Edges.ice(0, Edges.layer(5, -12));
        Edges.due("describeLake(0)", 5, x.describeLake(0));
        x.undo();
        Edges.due("the line after undo()", "5/-12", Checks.line(x, 5));
        Edges.due("describeLake(0)", 0, x.describeLake(0));
        x.freeze(0, 6, -9);
        x.undo();
        Edges.thrown("lineAt(0) after undo()", Checks.INDEX, () -> x.lineAt(0));
    }

    private static void lineIsNotSaved() {
        Edges.quote(0, NEITHER);
        IceBells x = Edges.ice(0, Edges.layer(5, -12));
        x.save();
        x.describeLake(0);
        x.restore();
        Edges.due("the line after restore()", "5/-12", Checks.line(x, 5));
        x.save();
        x.freeze(0, 6, -9);
        x.describeLake(0);
        x.restore();
        Edges.due("the line after restore()", "5/-12 6/-9", Checks.line(x, 10));
        Edges.thrown("lineAt(10)", Checks.INDEX, () -> x.lineAt(10));
    }

    /** A layer at 0 over a cold one, and a second lake; two windows, three peals, and cracks and thawing to come. */
    private static IceBells lively() {
        IceBells x = Edges.ice(20, Edges.layer(2, 0), Edges.layer(9, -40));
        x.addLake(100);
        x.freeze(1, 7, -31);
        x.addWindow(40, 45);
        x.addWindow(2, 3);
        x.strike(1, 0);
        x.pass(1);
        return x;
    }

    private static void sevenChanges(IceBells x) {
        x.pass(48);
        x.removeWindow(0);
        x.addWindow(60, 61);
        x.freeze(0, 5, -5);
        x.addLake(50);
        x.strike(0, 0);
        x.setAir(-3);
    }

    private static void everythingElseIsUndone() {
        Edges.quote(0, EVERYTHING_ELSE);
        IceBells x = lively();
        String before = Edges.landscape(x);
        sevenChanges(x);
        for (int i = 0; i < 7; i++) {
            x.undo();
        }
        Edges.due("the landscape", before, Edges.landscape(x));
        x.pass(20);
        String later = Edges.landscape(x);
        x.undo();
        x.pass(20);
        Edges.due("the landscape 20 hours later", later, Edges.landscape(x));
    }

    private static void everythingElseIsSaved() {
        Edges.quote(0, EVERYTHING_ELSE);
        IceBells x = lively();
        String before = Edges.landscape(x);
        Edges.due("save()", 2, x.save());
        sevenChanges(x);
        Edges.due("restore()", 2, x.restore());
        Edges.due("the landscape", before, Edges.landscape(x));
        x.pass(20);
        String later = Edges.landscape(x);
        x.restore();
        x.pass(20);
        Edges.due("the landscape 20 hours later", later, Edges.landscape(x));
    }

    private static IceBells full() {
        IceBells x = Edges.lakes(100, 100, 100, 100, 100);
        for (int i = 0; i < 8; i++) {
            x.freeze(4, 1 + i, -40 + i);
        }
        for (int i = 1; i <= 6; i++) {
            x.addWindow(10 * i, 10 * i + 5);
        }
        for (int i = 0; i < 16; i++) {
            x.strike(4, i % 8);
        }
        return x;
    }

    private static void fullLandscapeIsUndoneAndSaved() {
        Edges.quote(0, EVERYTHING_ELSE);
        String before = Edges.landscape(full());
        IceBells x = full();
        Edges.due("save()", 5, x.save());
        Edges.due("run()", 4, Checks.runText(x, "air 20;pass 48;pass 48;open 5"));
        Edges.due("undo()", 7, x.undo());
        Edges.due("the landscape after undo()", before, Edges.landscape(x));
        x.setAir(20);
        x.pass(48);
        x.removeWindow(0);
        Edges.due("restore()", 5, x.restore());
        Edges.due("the landscape after restore()", before, Edges.landscape(x));
    }

    private static void undoneChangesAreGone() {
        Edges.quote(50, "Undoes the latest change that has not been undone.");
        IceBells x = new IceBells();
        for (int i = 1; i <= 10; i++) {
            x.setAir(i);
        }
        Edges.due("undo()", 7, x.undo());
        Edges.due("undo()", 6, x.undo());
        Edges.due("air()", 8, x.air());
        x.setAir(-1);
        x.setAir(-2);
        x.setAir(-3);
        Edges.due("undo()", 7, x.undo());
        Edges.due("air()", -2, x.air());
        Edges.due("undo()", 6, x.undo());
        Edges.due("undo()", 5, x.undo());
        Edges.due("air() before the new changes", 8, x.air());
        Edges.due("undo()", 4, x.undo());
        Edges.due("air() before the change before the undone ones", 7, x.air());
    }

    private static void undoCounts() {
        Edges.quote(50, "Returns the number of changes that can still be undone.");
        IceBells x = new IceBells();
        x.setAir(1);
        Edges.due("undo() of the only change", 0, x.undo());
        x.setAir(1);
        x.setAir(2);
        Edges.due("undo() of the second change", 1, x.undo());
        x.setAir(2);
        Edges.due("undo() of the second change", 1, x.undo());
    }

    private static void nothingToUndo() {
        Edges.quote(50, "Throws `IllegalStateException` if there is no change to undo");
        IceBells x = new IceBells();
        Edges.thrown("undo() of a new object", Checks.STATE, () -> x.undo());
        x.save();
        Edges.thrown("undo() of save()", Checks.STATE, () -> x.undo());
        x.setAir(3);
        x.undo();
        Edges.thrown("undo() of what has been undone", Checks.STATE, () -> x.undo());
        Edges.thrown("undo() once more", Checks.STATE, () -> x.undo());
        x.setAir(4);
        Edges.due("undo() of a later change", 0, x.undo());
        Edges.due("air()", 0, x.air());
    }

    private static void laterSnapshot() {
        Edges.quote(51, SNAPSHOT);
        IceBells x = lively();
        x.save();
        x.pass(9);
        x.addLake(30);
        String before = Edges.landscape(x);
        Edges.due("save()", 3, x.save());
        x.undo();
        x.undo();
        Edges.due("restore()", 3, x.restore());
        Edges.due("the landscape", before, Edges.landscape(x));
    }

    private static void snapshotOfNothing() {
        Edges.quote(51, SNAPSHOT);
        IceBells x = new IceBells();
        String before = Edges.landscape(x);
        Edges.due("save() without lakes", 0, x.save());
        x.addLake(100);
        x.freeze(0, 9, -40);
        x.addWindow(7, 8);
        x.strike(0, 0);
        x.pass(3);
        Edges.due("restore()", 0, x.restore());
        Edges.due("the landscape", before, Edges.landscape(x));
        Edges.due("addLake(70)", 0, x.addLake(70));
        Edges.due("layerCount(0)", 0, x.layerCount(0));
        Edges.due("cracksOf(0)", 0, x.cracksOf(0));
    }

    private static void snapshotIsNoChange() {
        Edges.quote(51, SNAPSHOT);
        IceBells x = new IceBells();
        x.setAir(1);
        x.setAir(2);
        x.save();
        Edges.due("undo() after save()", 1, x.undo());
        Edges.due("air()", 1, x.air());
        Edges.due("undo()", 0, x.undo());
        x.restore();
        Edges.due("air(), as the snapshot is not undone", 2, x.air());
    }

    private static void snapshotIsKept() {
        Edges.quote(52, "Restores the snapshot, which is kept.");
        IceBells x = lively();
        String before = Edges.landscape(x);
        x.save();
        for (int i = 0; i < 3; i++) {
            x.pass(10);
            x.removeWindow(1);
            x.strike(1, 0);
            Edges.due("restore()", 2, x.restore());
            Edges.due("the landscape", before, Edges.landscape(x));
        }
        Edges.due("restore() at once", 2, x.restore());
        Edges.due("the landscape", before, Edges.landscape(x));
    }

    private static void noUndoAfterRestore() {
        Edges.quote(52, "After the call no change can be undone.");
        IceBells x = new IceBells();
        for (int i = 1; i <= 5; i++) {
            x.setAir(i);
        }
        x.save();
        for (int i = 6; i <= 9; i++) {
            x.setAir(i);
        }
        x.restore();
        Edges.thrown("undo() after restore()", Checks.STATE, () -> x.undo());
        Edges.due("air()", 5, x.air());
        for (int i = 10; i <= 19; i++) {
            x.setAir(i);
        }
        for (int i = 7; i >= 0; i--) {
            Edges.due("undo() of later changes", i, x.undo());
            Edges.due("air()", 12 + i - 1, x.air());
        }
        x.restore();
        x.setAir(20);
        Edges.due("undo() of the only change after restore()", 0, x.undo());
        Edges.due("air()", 5, x.air());
        Edges.thrown("undo()", Checks.STATE, () -> x.undo());
    }

    private static void noSnapshot() {
        Edges.quote(52, "Throws `IllegalStateException` if there is no snapshot");
        IceBells x = new IceBells();
        Edges.thrown("restore() of a new object", Checks.STATE, () -> x.restore());
        x.setAir(3);
        Edges.thrown("restore() without save()", Checks.STATE, () -> x.restore());
        Edges.due("undo() after the refused call", 0, x.undo());
        x.save();
        Edges.due("restore()", 0, x.restore());
    }
}
