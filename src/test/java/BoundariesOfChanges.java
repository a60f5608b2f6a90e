/** The sentences of promises 52 to 65 that name a boundary case, each with a test of its own. */
final class BoundariesOfChanges {

    private static final String WATERY = "marsh 4 3 clear 4;row fffh;row fwwf;row ffpf;";
    private final Check check;

    BoundariesOfChanges(Check check) {
        this.check = check;
    }

    void run() {
        refusesCounts();
        refusesTheTimeBeyondItsLast();
        countsWhoArrivesInTheseTicks();
        refusesBrightness();
        refusesLightsInTheirPlaces();
        refusesTravellersInTheirPlaces();
        refusesALightAfterItself();
        countsWhatLeadsAstray();
        returnsTheSuccessorRemoved();
        refusesStrengths();
        refusesPlanksOnGround();
        countsPlanksAfterwards();
        refusesClearness();
        refusesHoursOfFog();
        refusesFogs();
        refusesTargetsOfThoseWhoDoNotWalk();
        returnsTheDistanceToTheTarget();
        refusesToUndoNothing();
        refusesSlots();
        replacesSnapshots();
        savesNothingThatCanBeUndone();
        refusesEmptySlots();
        keepsSnapshots();
        printsALineForEachRow();
        printsTheLowestWalkingTraveller();
        refusesOffsets();
    }

    private void refusesCounts() {
        check.about("P52", "Throws `IllegalArgumentException` if count is out of range");
        FalseLightMarsh marsh = new FalseLightMarsh();
        for (int count : new int[] {0, -1, -100, 101, 256, 300, Integer.MIN_VALUE, Integer.MAX_VALUE}) {
            check.argument("count " + count, () -> marsh.tick(count));
        }
        check.same("no time passed", marsh.time(), 0);
        marsh.tick(1);
        check.same("count 1", marsh.time(), 1);
        marsh.tick(100);
        check.same("count 100", marsh.time(), 101);
    }

    private void refusesTheTimeBeyondItsLast() {
        check.about("P52", "Throws `IllegalStateException` if the time would exceed 9999");
        FalseLightMarsh marsh = new FalseLightMarsh();
        Marsh.tickTo(marsh, 9899);
        marsh.tick(100);
        check.same("100 ticks to 9999", marsh.time(), 9999);
        for (int count = 1; count <= 100; count++) {
            int ticks = count;
            check.state(ticks + " beyond 9999", () -> marsh.tick(ticks));
        }
        marsh.undo();
        marsh.tick(1);
        check.state("100 ticks to 10000", () -> marsh.tick(100));
        check.same("no time passed", marsh.time(), 9900);
        check.same("99 ticks to 9999", marsh.tick(99) + marsh.time(), 9999);
        check.same("the refused ones are no changes", marsh.undo(), 7);
        check.same("before the last one", marsh.time(), 9900);
    }

    private void countsWhoArrivesInTheseTicks() {
        check.about("P52", "Returns the number of travellers who arrive in these ticks.");
        FalseLightMarsh marsh = Marsh.of("marsh 8 2 clear 20;row hfffffff;row ffffffff;light 0 0 0 true;traveller 1 0;traveller 2 0;traveller 2 0;traveller 5 0;traveller 7 0;traveller 7 1;");
        check.same("in the first", marsh.tick(1), 1);
        check.same("in the second", marsh.tick(1), 2);
        check.same("in the third", marsh.tick(1), 0);
        check.same("in the next four", marsh.tick(4), 2);
        check.same("in the next hundred", marsh.tick(100), 1);
        check.same("no more", marsh.tick(100), 0);
        FalseLightMarsh all = Marsh.of("marsh 2 2 clear 20;row hf;row ff;light 0 0 0 true;" + "traveller 1 0;".repeat(6));
        check.same("all at once", all.tick(1), 6);
        FalseLightMarsh sinking = Marsh.of(Marsh.field(2, 2, 0) + "light 0 0 0 false;traveller 0 0;");
        check.same("those who sink do not count", sinking.tick(100), 0);
    }

    private void refusesBrightness() {
        check.about("P53", "Throws `IllegalArgumentException` if brightness is out of range");
        FalseLightMarsh marsh = new FalseLightMarsh();
        for (int brightness : new int[] {-1, 10, 256, Integer.MIN_VALUE, Integer.MAX_VALUE}) {
            check.argument("brightness " + brightness, () -> marsh.addLight(0, 0, brightness, true));
        }
        check.same("none was added", marsh.lightCount(), 0);
        check.same("brightness 0", marsh.addLight(0, 0, 0, true), 0);
        check.same("brightness 9", marsh.addLight(1, 0, 9, false), 1);
    }

    private void refusesLightsInTheirPlaces() {
        check.about("P53", "Throws `IllegalStateException` if there are 8 lights, or the cell is water or has a light");
        FalseLightMarsh marsh = Marsh.of(WATERY);
        check.state("water", () -> marsh.addLight(1, 1, 0, true));
        check.same("on a hut", marsh.addLight(3, 0, 0, true), 0);
        check.state("a light", () -> marsh.addLight(3, 0, 0, true));
        check.same("on a plank", marsh.addLight(2, 2, 0, true), 1);
        check.state("another light", () -> marsh.addLight(2, 2, 9, false));
        int[][] free = {{0, 0}, {1, 0}, {2, 0}, {0, 1}, {3, 1}, {0, 2}};
        for (int n = 0; n < 6; n++) {
            check.same("the number", marsh.addLight(free[n][0], free[n][1], 0, true), 2 + n);
        }
        check.state("8 lights", () -> marsh.addLight(1, 2, 0, true));
        check.state("8 lights, on water", () -> marsh.addLight(1, 1, 0, true));
        marsh.undo();
        check.same("7 lights", marsh.addLight(1, 2, 0, true), 7);
        check.about("P53", "Adds a light without a successor.");
        check.no("it has none", marsh.hasSuccessor(7));
        marsh.undo();
        marsh.undo();
        check.same("6 lights", marsh.addLight(0, 2, 0, true), 6);
        check.same("7 lights", marsh.addLight(1, 2, 0, true), 7);
        marsh.setSuccessor(7, 0);
        marsh.undo();
        marsh.undo();
        marsh.addLight(1, 2, 0, true);
        check.no("not that of a light that was undone", marsh.hasSuccessor(7));
    }

    private void refusesTravellersInTheirPlaces() {
        check.about("P54", "Throws `IllegalStateException` if there are 6 travellers, or the cell is water or a hut");
        FalseLightMarsh marsh = Marsh.of(WATERY);
        check.state("water", () -> marsh.addTraveller(1, 1));
        check.state("a hut", () -> marsh.addTraveller(3, 0));
        check.same("on a plank", marsh.addTraveller(2, 2), 0);
        for (int traveller = 1; traveller < 6; traveller++) {
            check.same("the number", marsh.addTraveller(0, 0), traveller);
        }
        check.state("6 travellers", () -> marsh.addTraveller(0, 0));
        check.state("6 travellers, on water", () -> marsh.addTraveller(1, 1));
        marsh.undo();
        check.same("5 travellers", marsh.addTraveller(0, 0), 5);
        FalseLightMarsh gone = Marsh.of("marsh 2 2 clear 20;row hf;row ff;light 0 0 0 true;" + "traveller 1 0;".repeat(6));
        gone.tick(1);
        check.state("6 travellers, who have all arrived", () -> gone.addTraveller(1, 1));
        FalseLightMarsh worn = Marsh.of("marsh 3 2 clear 20;row pff;row www;light 2 0 0 true;traveller 0 0;");
        worn.layPlank(0, 0, 1);
        worn.tick(1);
        check.state("a plank that became water", () -> worn.addTraveller(0, 0));
        worn.layPlank(0, 0, 1);
        check.same("and a plank again", worn.addTraveller(0, 0), 1);
    }

    private void refusesALightAfterItself() {
        check.about("P55", "Throws `IllegalArgumentException` if both numbers are the same");
        FalseLightMarsh marsh = Marsh.of(Marsh.field(3, 2, 0) + "light 0 0 0 true;light 1 0 0 true;light 2 0 0 true;");
        for (int n = 0; n < 3; n++) {
            int light = n;
            check.argument("light " + light, () -> marsh.setSuccessor(light, light));
            check.no("it has none", marsh.hasSuccessor(light));
        }
        check.same("the first after the last", marsh.setSuccessor(2, 0), 0);
        check.same("the last after the first", marsh.setSuccessor(0, 2), 2);
    }

    private void countsWhatLeadsAstray() {
        check.about("P55", "Returns the number of lights for which leadsAstray is true afterwards.");
        FalseLightMarsh marsh = Marsh.of(Marsh.field(8, 2, 0) + "light 0 0 0 true;light 1 0 0 true;light 2 0 0 true;light 3 0 0 true;"
                + "light 4 0 0 true;light 5 0 0 true;light 6 0 0 true;light 7 0 0 false;");
        check.same("the false one", marsh.setSuccessor(0, 1), 1);
        check.same("all that come to it", marsh.setSuccessor(1, 7), 3);
        check.same("no longer: the earlier successor is replaced", marsh.setSuccessor(1, 2), 1);
        check.same("a ring of three", marsh.setSuccessor(2, 0), 4);
        check.same("one before the ring", marsh.setSuccessor(6, 1), 5);
        check.same("the false one before the ring", marsh.setSuccessor(7, 6), 5);
        marsh.setSuccessor(3, 4);
        marsh.setSuccessor(4, 5);
        check.same("all", marsh.setSuccessor(5, 7), 8);
    }

    private void returnsTheSuccessorRemoved() {
        check.about("P56", "Returns the successor that it had.");
        FalseLightMarsh marsh = Marsh.of(Marsh.field(3, 2, 0) + "light 0 0 0 true;light 1 0 0 true next 0;light 2 0 0 true next 1;");
        check.same("light 0", marsh.clearSuccessor(1), 0);
        check.same("light 1", marsh.clearSuccessor(2), 1);
        check.element("none any more", () -> marsh.clearSuccessor(2));
        check.same("two changes", marsh.undo(), 1);
        check.same("light 1 again", marsh.clearSuccessor(2), 1);
    }

    private void refusesStrengths() {
        check.about("P57", "Throws `IllegalArgumentException` if strength is out of range");
        FalseLightMarsh marsh = Marsh.of(WATERY);
        for (int strength : new int[] {0, -1, 10, 257, Integer.MIN_VALUE, Integer.MAX_VALUE}) {
            check.argument("strength " + strength, () -> marsh.layPlank(1, 1, strength));
        }
        check.yes("none was laid", marsh.isWater(1, 1));
        marsh.layPlank(1, 1, 1);
        check.same("strength 1", marsh.plankStrength(1, 1), 1);
        marsh.layPlank(1, 1, 9);
        check.same("strength 9", marsh.plankStrength(1, 1), 9);
    }

    private void refusesPlanksOnGround() {
        check.about("P57", "Throws `IllegalStateException` if the cell is firm ground or a hut");
        FalseLightMarsh marsh = Marsh.of(WATERY);
        check.state("firm ground", () -> marsh.layPlank(0, 0, 1));
        check.state("a hut", () -> marsh.layPlank(3, 0, 9));
        check.no("no plank", marsh.isPlank(0, 0) || marsh.isPlank(3, 0));
        check.yes("still a hut", marsh.isHut(3, 0));
        check.same("on water", marsh.layPlank(1, 1, 1), 2);
        check.same("on a plank", marsh.layPlank(2, 2, 1), 2);
    }

    private void countsPlanksAfterwards() {
        check.about("P57", "Returns the number of planks afterwards.");
        FalseLightMarsh marsh = Marsh.of("marsh 2 2 clear 0;row ww;row ww;");
        check.same("the first", marsh.layPlank(0, 0, 1), 1);
        check.same("the same", marsh.layPlank(0, 0, 9), 1);
        check.same("the second", marsh.layPlank(1, 0, 1), 2);
        check.same("the third", marsh.layPlank(0, 1, 1), 3);
        check.same("the last cell", marsh.layPlank(1, 1, 1), 4);
        check.same("no more cells", marsh.layPlank(1, 1, 2), 4);
    }

    private void refusesClearness() {
        check.about("P58", "Throws `IllegalArgumentException` if clearness is out of range");
        FalseLightMarsh marsh = new FalseLightMarsh();
        for (int clearness : new int[] {-1, 21, 256, Integer.MIN_VALUE, Integer.MAX_VALUE}) {
            check.argument("clearness " + clearness, () -> marsh.setClearness(clearness));
        }
        check.same("the clearness stays", marsh.clearness(), 4);
        check.about("P58", "Returns the previous clearness.");
        check.same("the first", marsh.setClearness(20), 4);
        check.same("the greatest", marsh.setClearness(0), 20);
        check.same("the least", marsh.setClearness(0), 0);
        check.same("the same", marsh.setClearness(1), 0);
    }

    private void refusesHoursOfFog() {
        check.about("P59", "Throws `IndexOutOfBoundsException` if hour is out of range");
        FalseLightMarsh marsh = new FalseLightMarsh();
        for (int hour : new int[] {-1, 24, 48, -24, Integer.MIN_VALUE, Integer.MAX_VALUE}) {
            check.index("hour " + hour, () -> marsh.setFog(hour, 1));
            check.index("hour " + hour + " and fog 10", () -> marsh.setFog(hour, 10));
        }
        check.same("no fog", marsh.sight(), 4);
        check.same("hour 0", marsh.setFog(0, 1), 0);
        check.same("hour 23", marsh.setFog(23, 9), 0);
    }

    private void refusesFogs() {
        check.about("P59", "Throws `IllegalArgumentException` if fog is out of range");
        FalseLightMarsh marsh = new FalseLightMarsh();
        for (int fog : new int[] {-1, 10, 256, Integer.MIN_VALUE, Integer.MAX_VALUE}) {
            check.argument("fog " + fog, () -> marsh.setFog(0, fog));
        }
        check.same("none was set", marsh.fog(0), 0);
        check.about("P59", "Returns the previous fog of the hour.");
        check.same("none", marsh.setFog(0, 9), 0);
        check.same("the greatest", marsh.setFog(0, 0), 9);
        check.same("the least", marsh.setFog(0, 3), 0);
        check.same("none of another hour", marsh.setFog(1, 3), 0);
    }

    private void refusesTargetsOfThoseWhoDoNotWalk() {
        check.about("P60", "Throws `IllegalStateException` if the traveller is not walking");
        FalseLightMarsh marsh = Marsh.of("marsh 3 2 clear 9;row fhf;row fff;light 1 0 0 true;light 2 0 0 false;traveller 0 0;traveller 2 0;traveller 0 1;");
        marsh.tick(1);
        check.state("arrived", () -> marsh.setTarget(0, 0));
        check.state("sunk", () -> marsh.setTarget(1, 1));
        check.same("walking", marsh.setTarget(2, 1), 2);
        check.no("no target", marsh.hasTarget(0) || marsh.hasTarget(1));
        check.same("only one change more", marsh.undo(), 1);
    }

    private void returnsTheDistanceToTheTarget() {
        check.about("P60", "Returns the distance of the traveller to the light.");
        FalseLightMarsh marsh = Marsh.of(Marsh.winding(0, 'f') + "light 0 0 0 true;light 0 11 0 true;light 11 5 0 true;traveller 0 0;traveller 11 0;");
        check.same("the least", marsh.setTarget(0, 0), 0);
        check.same("not the length of the path", marsh.setTarget(0, 1), 11);
        check.same("the greatest here", marsh.setTarget(1, 1), 22);
        check.about("P60", "Makes a light the target of a traveller, even if it is not acceptable.");
        check.same("one that is not seen", marsh.target(1), 1);
        marsh.setTarget(0, 0);
        marsh.tick(1);
        check.yes("passed", marsh.hasPassed(0, 0));
        marsh.setTarget(0, 0);
        check.same("one that was passed", marsh.target(0), 0);
        FalseLightMarsh warned = Marsh.of(Marsh.field(3, 2, 9) + "light 0 0 0 false;traveller 0 0;traveller 1 0;");
        warned.tick(1);
        check.yes("distrusted", warned.distrusts(1, 0));
        check.same("one that is distrusted", warned.setTarget(1, 0), 1);
        check.same("it is the target", warned.target(1), 0);
    }

    private void refusesToUndoNothing() {
        check.about("P61", "Throws `IllegalStateException` if there is nothing to undo");
        FalseLightMarsh marsh = new FalseLightMarsh();
        check.state("a new object", marsh::undo);
        marsh.tick(1);
        check.same("one change", marsh.undo(), 0);
        check.state("no second one", marsh::undo);
        for (int n = 0; n < 9; n++) {
            marsh.tick(1);
        }
        for (int left = 7; left >= 0; left--) {
            check.same("8 of 9", marsh.undo(), left);
        }
        check.state("not the 9th", marsh::undo);
        check.same("it stays", marsh.time(), 1);
        marsh.tick(1);
        Marsh.append(marsh, WATERY);
        marsh.load();
        check.state("nothing from before the text", marsh::undo);
        check.about("P61", "Returns the number of changes that can still be undone.");
        for (int n = 1; n <= 12; n++) {
            marsh.tick(1);
            check.same("after " + n, marsh.undo(), Math.min(n, 8) - 1);
            marsh.tick(1);
        }
    }

    private void refusesSlots() {
        FalseLightMarsh marsh = new FalseLightMarsh();
        int[] slots = {-1, 2, 8, 256, Integer.MIN_VALUE, Integer.MAX_VALUE};
        check.about("P62", "Throws `IndexOutOfBoundsException` if slot is not 0 or 1");
        for (int slot : slots) {
            check.index("slot " + slot, () -> marsh.saveSnapshot(slot));
        }
        check.element("slot 0 is empty", () -> marsh.restoreSnapshot(0));
        check.same("slot 0", marsh.saveSnapshot(0), 0);
        check.same("slot 1", marsh.saveSnapshot(1), 0);
        check.about("P63", "Throws `IndexOutOfBoundsException` if slot is not 0 or 1");
        for (int slot : slots) {
            check.index("slot " + slot, () -> marsh.restoreSnapshot(slot));
        }
        check.state("no change", marsh::undo);
        check.same("slot 0", marsh.restoreSnapshot(0), 0);
        check.same("slot 1", marsh.restoreSnapshot(1), 0);
    }

    private void replacesSnapshots() {
        check.about("P62", "An earlier snapshot in the slot is replaced.");
        FalseLightMarsh marsh = Marsh.of(WATERY + "light 0 0 0 true;traveller 0 2;");
        for (int slot = 0; slot < 2; slot++) {
            marsh.saveSnapshot(slot);
            marsh.tick(3);
            int time = marsh.time();
            check.same("the time", marsh.saveSnapshot(slot), time);
            String saved = Marsh.state(marsh);
            marsh.tick(5);
            check.same("the later one", marsh.restoreSnapshot(slot), time);
            check.same("all of it", Marsh.state(marsh), saved);
        }
        check.same("the one in the other slot stays", marsh.restoreSnapshot(0), 3);
    }

    private void savesNothingThatCanBeUndone() {
        check.about("P62", "Saves a snapshot of everything that undo restores, except what can be undone.");
        FalseLightMarsh marsh = new FalseLightMarsh();
        marsh.setClearness(1);
        marsh.setClearness(2);
        marsh.saveSnapshot(0);
        marsh.undo();
        marsh.undo();
        check.state("nothing left to undo", marsh::undo);
        marsh.restoreSnapshot(0);
        check.same("the restoring alone", marsh.undo(), 0);
        check.same("before it", marsh.clearness(), 4);
        FalseLightMarsh full = new FalseLightMarsh();
        full.saveSnapshot(0);
        for (int n = 0; n < 8; n++) {
            full.tick(1);
        }
        full.restoreSnapshot(0);
        check.same("what could be undone still can, up to 8", full.undo(), 7);
        check.same("before the restoring", full.time(), 8);
    }

    private void refusesEmptySlots() {
        check.about("P63", "Throws `NoSuchElementException` if the slot is empty");
        FalseLightMarsh marsh = new FalseLightMarsh();
        check.element("slot 0", () -> marsh.restoreSnapshot(0));
        check.element("slot 1", () -> marsh.restoreSnapshot(1));
        marsh.saveSnapshot(1);
        check.element("slot 0, not 1", () -> marsh.restoreSnapshot(0));
        check.state("no change", marsh::undo);
        marsh.saveSnapshot(0);
        check.same("slot 0", marsh.restoreSnapshot(0), 0);
        Marsh.append(marsh, WATERY);
        marsh.load();
        check.element("slot 0, emptied", () -> marsh.restoreSnapshot(0));
        check.element("slot 1, emptied", () -> marsh.restoreSnapshot(1));
    }

    private void keepsSnapshots() {
        check.about("P63", "Restores a snapshot, which stays in the slot.");
        FalseLightMarsh marsh = Marsh.of(WATERY + "light 0 0 0 true;traveller 0 2;");
        marsh.tick(7);
        marsh.saveSnapshot(1);
        String saved = Marsh.state(marsh);
        for (int n = 0; n < 20; n++) {
            marsh.tick(1 + n);
            marsh.setFog(n, 9);
            check.same("the time afterwards", marsh.restoreSnapshot(1), 7);
            check.same("the fog", marsh.fog(n), 0);
        }
        check.same("all of it", Marsh.state(marsh), saved);
        marsh.undo();
        check.same("also after it was undone", marsh.restoreSnapshot(1), 7);
        FalseLightMarsh late = new FalseLightMarsh();
        Marsh.tickTo(late, 9999);
        late.saveSnapshot(0);
        late.undo();
        check.same("at the last time", late.restoreSnapshot(0), 9999);
        check.state("it is the last", () -> late.tick(1));
    }

    private void printsALineForEachRow() {
        check.about("P64", "It has one line for each row, from the top, which ends with a line feed (byte 10).");
        FalseLightMarsh least = Marsh.of("marsh 2 2 clear 0;row fw;row hp;");
        check.same("the least", least.print(), 6);
        check.same("its text", Marsh.printed(least), "fw\nhp\n");
        FalseLightMarsh greatest = Marsh.of("marsh 12 12 clear 0;" + "row fwhpfwhpfwhp;row pppppppppppp;".repeat(6));
        check.same("the greatest", greatest.print(), 156);
        check.same("its text", Marsh.printed(greatest), "fwhpfwhpfwhp\npppppppppppp\n".repeat(6));
        check.about("P64", "The printed text replaces the previous one.");
        Marsh.append(greatest, "marsh 2 3 clear 0;row ff;row ww;row hh;");
        greatest.load();
        check.same("a shorter one", Marsh.printed(greatest), "ff\nww\nhh\n");
        check.index("nothing of the longer one", () -> greatest.printedByte(9));
        greatest.layPlank(0, 1, 9);
        check.same("the same length", Marsh.printed(greatest), "ff\npw\nhh\n");
    }

    private void printsTheLowestWalkingTraveller() {
        check.about("P64", "the digit of the lowest walking traveller on the cell; otherwise an asterisk (byte 42) if there is a light; otherwise f, w, h or p as in a text");
        FalseLightMarsh marsh = Marsh.of("marsh 3 2 clear 0;row phf;row www;light 1 0 0 true;light 0 0 0 true;light 2 0 0 false;" + "traveller 2 0;".repeat(3) + "traveller 0 0;".repeat(3));
        check.same("the lowest of three each", Marsh.printed(marsh), "3*0\nwww\n");
        marsh.layPlank(0, 0, 1);
        for (int traveller = 0; traveller < 5; traveller++) {
            marsh.setTarget(traveller, traveller < 3 ? 2 : 0);
        }
        marsh.setTarget(5, 1);
        marsh.tick(1);
        check.same("those who sank or arrived do not show, nor does the hut below a light; the last stands on water", Marsh.printed(marsh), "5*1\nwww\n");
        marsh.setTarget(1, 2);
        marsh.setTarget(2, 2);
        marsh.setTarget(5, 0);
        marsh.tick(1);
        check.same("a light on water shows", Marsh.printed(marsh), "**2\nwww\n");
    }

    private void refusesOffsets() {
        check.about("P65", "Throws `IndexOutOfBoundsException` if there is no such byte (also before the first call of print)");
        FalseLightMarsh marsh = new FalseLightMarsh();
        for (int index : new int[] {0, 1, -1, 14, 15, 155, 156, Integer.MIN_VALUE, Integer.MAX_VALUE}) {
            check.index("before the first call: " + index, () -> marsh.printedByte(index));
        }
        marsh.print();
        check.same("the first", marsh.printedByte(0), 'f');
        check.same("the last", marsh.printedByte(14), 10);
        for (int index : new int[] {-1, 15, 16, 155, 156, 270, Integer.MIN_VALUE, Integer.MAX_VALUE}) {
            check.index("of 15: " + index, () -> marsh.printedByte(index));
        }
        Marsh.append(marsh, "marsh 12 12 clear 0;" + "row ffffffffffff;".repeat(12));
        marsh.load();
        check.index("before it is printed anew", () -> marsh.printedByte(15));
        marsh.print();
        check.same("the last of the greatest", marsh.printedByte(155), 10);
        check.index("of 156", () -> marsh.printedByte(156));
    }
}
