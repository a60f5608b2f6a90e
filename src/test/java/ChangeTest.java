/** Promises 57 to 59 and 61 to 63, and what counts as a change (Terms 6). */
final class ChangeTest {

    private static final String TEXT = "marsh 5 3 clear 4;row fwphf;row fffff;row wwwff;fog 2 3;light 0 0 1 true;"
            + "light 4 0 2 false next 0;light 3 0 0 true;traveller 0 1;traveller 4 2;";
    private static final Check check = new Check();

    public static void main(String[] args) {
        laysPlanks();
        refusesPlanks();
        setsClearness();
        setsFog();
        undoesEveryKindOfChange();
        undoesTheLatestEight();
        countsChangesThatChangeNothing();
        countsNoOtherCallsAsChanges();
        undoLeavesWhatIsNotItsOwn();
        savesSnapshots();
        replacesSnapshots();
        restoresSnapshots();
        refusesSlots();
        check.end();
    }

    private static void laysPlanks() {
        FalseLightMarsh marsh = Marsh.of(TEXT);
        check.same("P57 on water", marsh.layPlank(1, 0, 9), 2);
        check.same("P57 its strength", marsh.plankStrength(1, 0), 9);
        check.same("P57 on another plank: no plank more", marsh.layPlank(2, 0, 1), 2);
        check.same("P57 its strength", marsh.plankStrength(2, 0), 1);
        check.same("P57 a third", marsh.layPlank(0, 2, 5), 3);
        check.same("P57 it can be walked on", marsh.pathLength(0, 0, 0, 2), 2);
        check.same("P57 it is a change", marsh.undo(), 2);
        check.yes("P57 water again", marsh.isWater(0, 2));
        marsh.undo();
        check.same("P57 the earlier strength", marsh.plankStrength(2, 0), 3);
    }

    private static void refusesPlanks() {
        FalseLightMarsh marsh = Marsh.of(TEXT);
        String before = Marsh.state(marsh);
        check.index("P57 column 5", () -> marsh.layPlank(5, 0, 1));
        check.index("P57 row 3", () -> marsh.layPlank(0, 3, 1));
        check.index("P57 the cell comes before the strength", () -> marsh.layPlank(-1, 0, 0));
        check.argument("P57 strength 0", () -> marsh.layPlank(1, 0, 0));
        check.argument("P57 strength 10", () -> marsh.layPlank(1, 0, 10));
        check.argument("P57 strength comes before the ground", () -> marsh.layPlank(0, 0, -1));
        check.state("P57 firm ground", () -> marsh.layPlank(0, 1, 1));
        check.state("P57 a hut", () -> marsh.layPlank(3, 0, 1));
        check.same("P57 nothing changed", Marsh.state(marsh), before);
        check.state("P57 no change to undo", marsh::undo);
        FalseLightMarsh first = new FalseLightMarsh();
        check.state("P57 firm ground of a new object", () -> first.layPlank(0, 0, 1));
        check.state("P57 the hut of a new object", () -> first.layPlank(3, 0, 1));
        check.same("P57 water of a new object", first.layPlank(1, 1, 1), 2);
    }

    private static void setsClearness() {
        FalseLightMarsh marsh = Marsh.of(TEXT);
        check.same("P58 the previous one", marsh.setClearness(20), 4);
        check.same("P58 the previous one", marsh.setClearness(0), 20);
        check.same("P58 the new one", marsh.clearness(), 0);
        check.argument("P58 21", () -> marsh.setClearness(21));
        check.argument("P58 -1", () -> marsh.setClearness(-1));
        check.same("P58 nothing changed", marsh.clearness(), 0);
        check.same("P58 two changes", marsh.undo(), 1);
        check.same("P58 undone", marsh.clearness(), 20);
    }

    private static void setsFog() {
        FalseLightMarsh marsh = Marsh.of(TEXT);
        check.same("P59 the previous one", marsh.setFog(2, 9), 3);
        check.same("P59 the previous one", marsh.setFog(2, 0), 9);
        check.same("P59 none before", marsh.setFog(23, 4), 0);
        check.same("P59 the first hour", marsh.setFog(0, 1), 0);
        check.same("P59 the new one", marsh.fog(23), 4);
        check.same("P59 another hour", marsh.fog(22), 0);
        check.index("P59 hour 24", () -> marsh.setFog(24, 1));
        check.index("P59 the hour comes before the fog", () -> marsh.setFog(-1, 10));
        check.argument("P59 fog 10", () -> marsh.setFog(1, 10));
        check.argument("P59 fog -1", () -> marsh.setFog(1, -1));
        check.same("P59 four changes", marsh.undo(), 3);
        check.same("P59 undone", marsh.fog(0), 0);
    }

    private static void undoesEveryKindOfChange() {
        for (int kind = 0; kind < 10; kind++) {
            FalseLightMarsh marsh = Marsh.of(TEXT);
            marsh.setTarget(1, 1);
            marsh.tick(1);
            marsh.saveSnapshot(0);
            marsh.tick(1);
            String before = Marsh.state(marsh);
            change(marsh, kind);
            check.no("P61 a change of kind " + kind, Marsh.state(marsh).equals(before));
            check.same("P61 three before it", marsh.undo(), 3);
            check.same("P61 all as before, kind " + kind, Marsh.state(marsh), before);
        }
    }

    private static void change(FalseLightMarsh marsh, int kind) {
        switch (kind) {
            case 0 -> marsh.tick(3);
            case 1 -> marsh.addLight(4, 1, 3, true);
            case 2 -> marsh.addTraveller(2, 0);
            case 3 -> marsh.setSuccessor(0, 2);
            case 4 -> marsh.clearSuccessor(1);
            case 5 -> marsh.layPlank(0, 2, 7);
            case 6 -> marsh.setClearness(11);
            case 7 -> marsh.setFog(5, 5);
            case 8 -> marsh.setTarget(0, 2);
            default -> marsh.restoreSnapshot(0);
        }
    }

    private static void undoesTheLatestEight() {
        FalseLightMarsh marsh = new FalseLightMarsh();
        for (int n = 5; n <= 15; n++) {
            marsh.setClearness(n);
        }
        for (int left = 7; left >= 0; left--) {
            check.same("P61 how many are left", marsh.undo(), left);
            check.same("P61 the clearness before", marsh.clearness(), left + 7);
        }
        check.state("P61 no more than 8", marsh::undo);
        check.same("P61 nothing changed", marsh.clearness(), 7);
        marsh.setClearness(1);
        marsh.setClearness(2);
        check.same("P61 a change that was undone does not count", marsh.undo(), 1);
        marsh.setClearness(3);
        check.same("P61 the change after that", marsh.undo(), 1);
        check.same("P61 the clearness before it", marsh.clearness(), 1);
        check.same("P61 the one before", marsh.undo(), 0);
        check.same("P61 the clearness before it", marsh.clearness(), 7);
        check.state("P61 nothing more", marsh::undo);
    }

    private static void countsChangesThatChangeNothing() {
        FalseLightMarsh marsh = Marsh.of(TEXT);
        marsh.setClearness(4);
        marsh.setFog(2, 3);
        marsh.setSuccessor(1, 0);
        marsh.layPlank(2, 0, 3);
        marsh.setTarget(0, 0);
        marsh.setTarget(0, 0);
        check.same("P61 all count", marsh.undo(), 5);
        check.same("P61 the target was set before", marsh.target(0), 0);
        check.same("P61 one more", marsh.undo(), 4);
        check.no("P61 no target before", marsh.hasTarget(0));
    }

    private static void countsNoOtherCallsAsChanges() {
        FalseLightMarsh marsh = Marsh.of(TEXT);
        marsh.setClearness(5);
        marsh.saveSnapshot(0);
        marsh.print();
        marsh.append(1, 2, 3, 4, 5);
        marsh.shorten(0);
        marsh.bestClearness();
        marsh.arrivedAfter(10);
        check.argument("a text with an error", marsh::load);
        check.same("P61 the one change", marsh.undo(), 0);
        check.same("P61 undone", marsh.clearness(), 4);
    }

    private static void undoLeavesWhatIsNotItsOwn() {
        FalseLightMarsh marsh = Marsh.of(TEXT);
        marsh.setClearness(5);
        check.argument("an empty text", marsh::load);
        marsh.append(1, 2, 3, 4, 5);
        marsh.layPlank(1, 0, 3);
        String printed = Marsh.printed(marsh);
        marsh.saveSnapshot(1);
        marsh.undo();
        marsh.undo();
        check.same("P61 the buffer stays", marsh.shorten(20), 20);
        check.yes("P61 the error stays", marsh.hasError());
        check.same("P61 the printed text stays", marsh.printedByte(1), printed.charAt(1));
        check.same("P61 it shows the plank", marsh.printedByte(1), 'p');
        marsh.restoreSnapshot(1);
        check.same("P61 the snapshot stays", marsh.clearness(), 5);
        check.yes("P61 with its plank", marsh.isPlank(1, 0));
    }

    private static void savesSnapshots() {
        FalseLightMarsh marsh = Marsh.of(TEXT);
        check.same("P62 the time", marsh.saveSnapshot(0), 0);
        String first = Marsh.state(marsh);
        marsh.setTarget(1, 1);
        marsh.tick(2);
        check.same("P62 the time", marsh.saveSnapshot(1), 2);
        String second = Marsh.state(marsh);
        marsh.addLight(4, 1, 3, true);
        marsh.layPlank(0, 2, 7);
        marsh.tick(10);
        check.same("P63 the time afterwards", marsh.restoreSnapshot(1), 2);
        check.same("P63 all as it was", Marsh.state(marsh), second);
        check.same("P63 the time afterwards", marsh.restoreSnapshot(0), 0);
        check.same("P63 all as it was", Marsh.state(marsh), first);
    }

    private static void replacesSnapshots() {
        FalseLightMarsh marsh = Marsh.of(TEXT);
        marsh.saveSnapshot(0);
        String first = Marsh.state(marsh);
        marsh.saveSnapshot(1);
        marsh.setClearness(17);
        marsh.saveSnapshot(1);
        marsh.setClearness(1);
        marsh.restoreSnapshot(1);
        check.same("P62 the earlier one is replaced", marsh.clearness(), 17);
        marsh.restoreSnapshot(0);
        check.same("P62 the other one is not", Marsh.state(marsh), first);
    }

    private static void restoresSnapshots() {
        FalseLightMarsh marsh = Marsh.of(TEXT);
        marsh.saveSnapshot(0);
        marsh.setClearness(9);
        marsh.setClearness(10);
        marsh.restoreSnapshot(0);
        marsh.tick(7);
        check.same("P63 it stays in the slot", marsh.restoreSnapshot(0), 0);
        check.same("P63 it is a change, and what can be undone stays", marsh.undo(), 4);
        check.same("P63 undone", marsh.time(), 7);
        marsh.undo();
        marsh.undo();
        check.same("P63 the first restoring undone", marsh.clearness(), 10);
    }

    private static void refusesSlots() {
        FalseLightMarsh marsh = Marsh.of(TEXT);
        for (int slot : new int[] {-1, 2, Integer.MIN_VALUE, Integer.MAX_VALUE}) {
            check.index("P62 slot " + slot, () -> marsh.saveSnapshot(slot));
            check.index("P63 slot " + slot, () -> marsh.restoreSnapshot(slot));
        }
        marsh.saveSnapshot(1);
        check.element("P63 slot 0 is empty", () -> marsh.restoreSnapshot(0));
        check.state("P63 no change to undo", marsh::undo);
        check.same("P63 slot 1 is not", marsh.restoreSnapshot(1), 0);
    }
}
