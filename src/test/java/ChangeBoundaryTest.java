/** Each sentence of Terms 6 that names a boundary case, in the document's order, with a test of its own. */
final class ChangeBoundaryTest {

    private static final Check check = new Check();

    public static void main(String[] args) {
        countsChangesThatChangeNothing();
        undoesTheLatestEight();
        forgetsWhatWasUndone();
        leavesWhatUndoDoesNotRestore();
        hasTwoSlots();
        asksBeyondTheLastTime();
        throwsTheFirstOfSeveral();
        Document.compare(check, false);
        check.end();
    }

    private static void countsChangesThatChangeNothing() {
        check.about("T6", "that throws no exception, even if nothing is different afterwards");
        FalseLightMarsh marsh = Marsh.of(Marsh.field(2, 2, 5).replace("row ff;row ff;", "row fp;row ff;") + "fog 1 2;light 0 0 0 true;light 0 1 0 true next 0;traveller 0 0;");
        marsh.setTarget(0, 0);
        marsh.saveSnapshot(0);
        String before = Marsh.state(marsh);
        marsh.setClearness(5);
        marsh.setFog(1, 2);
        marsh.setSuccessor(1, 0);
        marsh.layPlank(1, 0, 3);
        marsh.setTarget(0, 0);
        marsh.restoreSnapshot(0);
        check.same("nothing is different", Marsh.state(marsh), before);
        check.same("six changes, and one before them", marsh.undo(), 6);
        for (int kind = 0; kind < 10; kind++) {
            FalseLightMarsh one = Marsh.of(Marsh.field(2, 2, 5).replace("row ff;row ff;", "row fp;row ff;") + "light 0 0 0 true;light 0 1 0 true next 0;traveller 0 0;");
            one.saveSnapshot(1);
            change(one, kind);
            check.same("one change of kind " + kind, one.undo(), 0);
        }
        FalseLightMarsh none = new FalseLightMarsh();
        none.saveSnapshot(0);
        none.saveSnapshot(1);
        none.print();
        none.append(0, 0, 0, 0, 0);
        none.shorten(3);
        Check.thrown(none::load);
        Check.thrown(none::undo);
        Check.thrown(() -> none.tick(0));
        Check.thrown(() -> none.layPlank(0, 0, 1));
        check.state("no other call, and no call that throws", none::undo);
    }

    private static void undoesTheLatestEight() {
        check.about("T6", "The latest 8 changes can be undone.");
        for (int made = 0; made <= 20; made++) {
            FalseLightMarsh marsh = new FalseLightMarsh();
            for (int n = 1; n <= made; n++) {
                marsh.setClearness(n);
            }
            int undone = Math.min(made, 8);
            for (int n = 1; n <= undone; n++) {
                check.same("after " + made + " changes and " + n + " undone", marsh.undo(), undone - n);
                check.same("the clearness then", marsh.clearness(), made == n ? 4 : made - n);
            }
            check.state("no more of " + made + " changes", marsh::undo);
        }
    }

    private static void forgetsWhatWasUndone() {
        check.about("T6", "A change that was undone does not count any more.");
        FalseLightMarsh marsh = new FalseLightMarsh();
        for (int n = 1; n <= 8; n++) {
            marsh.setClearness(n);
        }
        marsh.undo();
        marsh.undo();
        marsh.setClearness(9);
        check.same("8, less 2, and 1 more", marsh.undo(), 6);
        check.same("before the last one", marsh.clearness(), 6);
        check.same("the one before", marsh.undo(), 5);
        check.same("before that one", marsh.clearness(), 5);
        for (int n = 0; n < 50; n++) {
            marsh.setClearness(20);
            check.same("made and undone again and again", marsh.undo(), 5);
        }
        check.same("the clearness stays", marsh.clearness(), 5);
    }

    private static void leavesWhatUndoDoesNotRestore() {
        check.about("T6", "Undoing a change restores everything as it was before it, except the input buffer, the error, the printed text and the snapshots.");
        FalseLightMarsh kept = new FalseLightMarsh();
        kept.setClearness(7);
        kept.saveSnapshot(0);
        kept.layPlank(1, 1, 1);
        check.argument("an error", kept::load);
        kept.append(1, 2, 3, 4, 5);
        kept.shorten(17);
        kept.print();
        kept.undo();
        kept.undo();
        check.same("the clearness", kept.clearness(), 4);
        check.yes("the ground", kept.isWater(1, 1));
        check.yes("not the error", kept.hasError());
        check.same("not the error offset", kept.errorOffset(), 0);
        check.same("not the buffer", kept.append(0, 0, 0, 0, 0), 37);
        check.same("not the printed text", kept.printedByte(6), 'p');
        kept.restoreSnapshot(0);
        check.same("not the snapshot", kept.clearness(), 7);
    }

    private static void hasTwoSlots() {
        check.about("T6", "There are two snapshot slots, 0 and 1.");
        FalseLightMarsh slots = new FalseLightMarsh();
        slots.setClearness(10);
        slots.saveSnapshot(0);
        slots.setClearness(11);
        slots.saveSnapshot(1);
        slots.restoreSnapshot(0);
        check.same("slot 0", slots.clearness(), 10);
        slots.restoreSnapshot(1);
        check.same("slot 1", slots.clearness(), 11);
        check.index("slot 2", () -> slots.saveSnapshot(2));
        check.index("slot -1", () -> slots.saveSnapshot(-1));
    }

    private static void asksBeyondTheLastTime() {
        check.about("T6", "Questions about the future change nothing, and the limit of the time does not apply to them.");
        FalseLightMarsh marsh = Marsh.of("marsh 5 2 clear 5;row ffffh;row ppfff;" + Marsh.fogs(0, 23, 9).replace("fog 23 9;", "") + "light 4 0 9 true;light 0 1 0 false;");
        Marsh.tickTo(marsh, 9999);
        marsh.addTraveller(0, 0);
        marsh.addTraveller(1, 1);
        marsh.addTraveller(1, 1);
        marsh.setTarget(1, 1);
        marsh.layPlank(1, 1, 1);
        marsh.saveSnapshot(0);
        marsh.print();
        String before = Marsh.state(marsh);
        check.state("the limit is reached", () -> marsh.tick(1));
        check.same("4 ticks", marsh.ticksUntilDone(0), 4);
        check.yes("arrives", marsh.willArrive(0));
        check.no("sinks", marsh.willArrive(1));
        check.same("two arrive", marsh.arrivedAfter(300), 2);
        check.same("one sinks", marsh.sunkAfter(300), 1);
        check.same("with any clearness", marsh.bestClearness(), 0);
        check.same("nothing changed", Marsh.state(marsh), before);
        check.same("the printed text stays", marsh.printedByte(0), '0');
        marsh.restoreSnapshot(0);
        check.same("the snapshot stays", Marsh.state(marsh), before);
        check.same("so many changes as before, and the restoring", marsh.undo(), 7);
    }

    private static void throwsTheFirstOfSeveral() {
        check.about("T6", "If several exceptions apply, the one that comes first in the throws clause is thrown.");
        FalseLightMarsh marsh = Marsh.of("marsh 3 3 clear 9;row fff;row fff;row fwh;"
                + "light 0 0 0 true;light 1 0 0 true;light 2 0 0 true;light 0 1 0 false;light 1 1 0 true;light 2 1 0 true;light 0 2 0 true;light 2 2 0 true;"
                + "traveller 0 1;traveller 0 0;traveller 0 0;traveller 0 0;traveller 0 0;traveller 0 0;");
        Marsh.tickTo(marsh, 9990);
        check.yes("the first sank", marsh.hasSunk(0));
        check.argument("tick: count 101, beyond the last time", () -> marsh.tick(101));
        check.state("tick: count 10, beyond the last time", () -> marsh.tick(10));
        check.index("addLight: no cell, brightness 10, a 9th", () -> marsh.addLight(3, 0, 10, true));
        check.argument("addLight: brightness 10, a 9th on water", () -> marsh.addLight(1, 2, 10, true));
        check.state("addLight: a 9th", () -> marsh.addLight(1, 2, 9, true));
        check.index("addTraveller: no cell, a 7th", () -> marsh.addTraveller(0, 3));
        check.state("addTraveller: a 7th", () -> marsh.addTraveller(1, 1));
        check.index("setSuccessor: no light, twice the same", () -> marsh.setSuccessor(8, 8));
        check.argument("setSuccessor: twice the same", () -> marsh.setSuccessor(7, 7));
        check.index("layPlank: no cell, strength 0", () -> marsh.layPlank(-1, 0, 0));
        check.argument("layPlank: strength 0, ground", () -> marsh.layPlank(0, 0, 0));
        check.state("layPlank: ground", () -> marsh.layPlank(0, 0, 1));
        check.index("setFog: no hour, fog 10", () -> marsh.setFog(24, 10));
        check.argument("setFog: fog 10", () -> marsh.setFog(23, 10));
        check.index("setTarget: no light, sunk", () -> marsh.setTarget(0, 8));
        check.index("setTarget: no traveller, no light", () -> marsh.setTarget(6, 8));
        check.state("setTarget: sunk", () -> marsh.setTarget(0, 7));
        check.state("ticksUntilDone: sunk, and it never ends", () -> marsh.ticksUntilDone(0));
        check.index("plankStrength: no cell", () -> marsh.plankStrength(3, 3));
        check.index("pathLength: no cell, water", () -> marsh.pathLength(0, 3, 1, 2));
        check.index("pathLength: water first, no cell last", () -> marsh.pathLength(1, 2, 3, 0));
    }

    private static void change(FalseLightMarsh marsh, int kind) {
        switch (kind) {
            case 0 -> marsh.tick(100);
            case 1 -> marsh.addLight(1, 1, 0, true);
            case 2 -> marsh.addTraveller(1, 1);
            case 3 -> marsh.setSuccessor(0, 1);
            case 4 -> marsh.clearSuccessor(1);
            case 5 -> marsh.layPlank(1, 0, 3);
            case 6 -> marsh.setClearness(5);
            case 7 -> marsh.setFog(0, 0);
            case 8 -> marsh.setTarget(0, 0);
            default -> marsh.restoreSnapshot(1);
        }
    }
}
