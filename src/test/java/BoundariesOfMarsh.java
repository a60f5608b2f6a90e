/** The sentences of promises 1 to 28 that name a boundary case, each with a test of its own. */
final class BoundariesOfMarsh {

    /** A call that takes a cell. */
    interface OnCell {
        void ask(FalseLightMarsh marsh, int x, int y);
    }

    /** A call that takes a number. */
    interface OnNumber {
        void ask(FalseLightMarsh marsh, int number);
    }

    static final int[] ODD_NUMBERS = {-1, -8, 8, 12, 32, 64, 256, Integer.MIN_VALUE, Integer.MAX_VALUE};

    private static final String FIRST = "marsh 4 3 clear 4;row fffh;row fwwf;row ffpf;";
    private static final String EIGHT_LIGHTS = "light 0 0 0 true;light 1 0 0 true;light 2 0 0 true;light 3 0 0 true;"
            + "light 4 0 0 true;light 5 0 0 true;light 6 0 0 true;light 7 0 0 false;";
    private final Check check;

    BoundariesOfMarsh(Check check) {
        this.check = check;
    }

    void run() {
        isNew();
        appends();
        refusesToAppend();
        refusesToShorten();
        emptiesTheBuffer();
        replacesEverything();
        countsTravellersOfATextRead();
        refusesToLoad();
        tellsNoErrorAtFirst();
        tellsTheLatestErrorOffset();
        refusesToTellNoError();
        tellsColumnsAndRows();
        refusesCells();
        tellsWhatIsNoPlank();
        countsPlanks();
        refusesToTellNoPath();
        refusesToTellNoHut();
        tellsTimeAndClearness();
        refusesHours();
        tellsSight();
        countsLights();
        tellsLightsAtTheEdges();
        refusesLights();
        refusesToTellNoSuccessor();
        countsFollowers();
        visitsAllLightsInTurn();
    }

    private void isNew() {
        check.about("P1", "Creates a marsh as from the text \"" + FIRST + "\"");
        check.same("all of it", Marsh.state(new FalseLightMarsh()), Marsh.state(Marsh.of(FIRST)));
        check.same("written out", Marsh.state(new FalseLightMarsh()), "4x3 time 0 clear 4 fog" + " 0".repeat(24) + "\nfffh\nfwwf\nff3f\n");

        check.about("P1", "with an empty input buffer, no error, no snapshots and no printed text");
        FalseLightMarsh marsh = new FalseLightMarsh();
        check.argument("an empty buffer can't be shortened to 1", () -> marsh.shorten(1));
        check.no("no error", marsh.hasError());
        check.element("no snapshot in slot 0", () -> marsh.restoreSnapshot(0));
        check.element("no snapshot in slot 1", () -> marsh.restoreSnapshot(1));
        check.index("no printed text", () -> marsh.printedByte(0));
        check.state("nothing to undo", marsh::undo);
        check.argument("an empty buffer is no text", marsh::load);
        check.same("and ends at once", marsh.errorOffset(), 0);
    }

    private void appends() {
        check.about("P2", "Appends 20 bytes to the input buffer: the four bytes of each parameter, the most significant byte first.");
        FalseLightMarsh marsh = new FalseLightMarsh();
        // "marsh 2 2 clear 1;\n " and "row ff;row hp;\n\n\n\n\n\n"
        check.same("20", marsh.append(0x6d617273, 0x68203220, 0x3220636c, 0x65617220, 0x313b0a20), 20);
        check.same("40", marsh.append(0x726f7720, 0x66663b72, 0x6f772068, 0x703b0a0a, 0x0a0a0a0a), 40);
        check.same("they are read in this order", marsh.load(), 0);
        check.same("all of it", Marsh.printed(marsh), "ff\nhp\n");
        int[][] wrongAt = {{0, 'm' << 24 | 0x617273, 0xff}, {3, 0x20202080, 0x20202020}, {0, -1, -1}, {0, Integer.MIN_VALUE, 0}, {1, 0x207fffff, 0}};
        for (int[] one : wrongAt) {
            marsh.append(one[1], one[2], 0x20202020, 0x20202020, 0x20202020);
            check.argument("bytes that are no text", marsh::load);
            check.same("from where on", marsh.errorOffset(), one[0]);
        }
    }

    private void refusesToAppend() {
        check.about("P2", "Throws `IllegalStateException` if the length would exceed 800");
        FalseLightMarsh marsh = new FalseLightMarsh();
        for (int length = 20; length <= 800; length += 20) {
            check.same("up to " + length, marsh.append(0, 0, 0, 0, 0), length);
        }
        check.state("820", () -> marsh.append(0, 0, 0, 0, 0));
        for (int length = 799; length > 780; length--) {
            marsh.shorten(length);
            check.state(length + " and 20", () -> marsh.append(0, 0, 0, 0, 0));
        }
        marsh.shorten(780);
        check.same("780 and 20", marsh.append(0, 0, 0, 0, 0), 800);
    }

    private void refusesToShorten() {
        check.about("P3", "Throws `IllegalArgumentException` if length is negative or greater than the length of the buffer");
        FalseLightMarsh marsh = new FalseLightMarsh();
        check.same("0 of 0", marsh.shorten(0), 0);
        check.argument("1 of 0", () -> marsh.shorten(1));
        check.argument("-1 of 0", () -> marsh.shorten(-1));
        marsh.append(0, 0, 0, 0, 0);
        check.argument("21 of 20", () -> marsh.shorten(21));
        check.argument("-1 of 20", () -> marsh.shorten(-1));
        check.argument("the least int", () -> marsh.shorten(Integer.MIN_VALUE));
        check.argument("the greatest int", () -> marsh.shorten(Integer.MAX_VALUE));
        check.same("20 of 20", marsh.shorten(20), 20);
        check.same("19 of 20", marsh.shorten(19), 19);
        check.argument("20 of 19", () -> marsh.shorten(20));
        check.same("0 of 19", marsh.shorten(0), 0);
        check.about("P3", "Shortens the input buffer to its first bytes.");
        Marsh.append(marsh, FIRST + "x");
        marsh.shorten(FIRST.length());
        check.same("the last byte is cut off", marsh.load(), 0);
    }

    private void emptiesTheBuffer() {
        check.about("P4", "The buffer is empty afterwards.");
        FalseLightMarsh marsh = new FalseLightMarsh();
        Marsh.append(marsh, FIRST);
        marsh.load();
        check.argument("after a right text", () -> marsh.shorten(1));
        Marsh.append(marsh, FIRST + "x");
        check.argument("a wrong text", marsh::load);
        check.argument("after a wrong text", () -> marsh.shorten(1));
        check.argument("the same text is not read again", marsh::load);
        check.same("but an empty one", marsh.errorOffset(), 0);
    }

    private void replacesEverything() {
        check.about("P4", "everything except the printed text is replaced: the time is 0, nothing can be undone, and both snapshot slots are empty");
        FalseLightMarsh marsh = Marsh.of(Marsh.field(3, 3, 9) + "fog 0 5;light 0 0 9 false;light 1 0 9 true;traveller 0 0;traveller 2 2;");
        marsh.tick(2);
        marsh.saveSnapshot(0);
        marsh.saveSnapshot(1);
        marsh.print();
        check.same("the future, asked before, leaves nothing either", marsh.arrivedAfter(300) + marsh.bestClearness(), 0);
        Marsh.append(marsh, FIRST);
        marsh.load();
        check.same("all as new", Marsh.state(marsh), Marsh.state(new FalseLightMarsh()));
        check.state("nothing to undo", marsh::undo);
        check.element("slot 0", () -> marsh.restoreSnapshot(0));
        check.element("slot 1", () -> marsh.restoreSnapshot(1));
        check.same("the printed text stays", marsh.printedByte(11), 10);
        check.index("and is no longer than it was", () -> marsh.printedByte(12));
    }

    private void countsTravellersOfATextRead() {
        check.about("P4", "Returns the number of travellers.");
        FalseLightMarsh marsh = new FalseLightMarsh();
        for (int count = 6; count >= 0; count--) {
            Marsh.append(marsh, FIRST + "traveller 0 0;".repeat(count));
            check.same(count + " of them", marsh.load(), count);
        }
    }

    private void refusesToLoad() {
        check.about("P4", "Throws `IllegalArgumentException` if the text has an error");
        String whole = FIRST + "fog 1 1;light 0 0 1 true;light 1 0 1 true next 0;traveller 0 0;";
        for (int length = 0; length < whole.length(); length++) {
            if (length < FIRST.length() || whole.charAt(length - 1) != ';') {
                refusesToLoad(whole.substring(0, length));
            }
        }
    }

    private void refusesToLoad(String text) {
        FalseLightMarsh marsh = Marsh.of(Marsh.field(3, 2, 9) + "light 0 0 9 false;traveller 0 1;");
        marsh.tick(1);
        marsh.saveSnapshot(1);
        String before = Marsh.state(marsh);
        Marsh.append(marsh, text);
        check.argument("the text " + text, marsh::load);
        check.same("nothing changed after " + text, Marsh.state(marsh), before);
        check.same("the snapshot stays after " + text, marsh.restoreSnapshot(1), 1);
        check.same("what can be undone stays after " + text, marsh.undo(), 1);
    }

    private void tellsNoErrorAtFirst() {
        check.about("P5", "Returns whether the latest call of load found an error; false if there was no such call.");
        FalseLightMarsh marsh = new FalseLightMarsh();
        check.no("no such call", marsh.hasError());
        Marsh.append(marsh, FIRST);
        check.no("not yet", marsh.hasError());
        marsh.load();
        check.no("a right text", marsh.hasError());
        check.argument("an empty text", marsh::load);
        check.yes("an empty text", marsh.hasError());
        Marsh.append(marsh, FIRST);
        check.yes("still", marsh.hasError());
        marsh.load();
        check.no("a right text", marsh.hasError());
    }

    private void tellsTheLatestErrorOffset() {
        check.about("P6", "Returns the error offset of the latest call of load.");
        FalseLightMarsh marsh = new FalseLightMarsh();
        String blanks = " ".repeat(800);
        for (int length = 0; length <= 800; length += 100) {
            Marsh.append(marsh, blanks.substring(0, length));
            check.argument(length + " spaces", marsh::load);
            check.same(length + " spaces", marsh.errorOffset(), length);
        }
        Marsh.append(marsh, "x");
        check.argument("the first byte", marsh::load);
        check.same("the first byte", marsh.errorOffset(), 0);
        Marsh.append(marsh, blanks.substring(1) + "x");
        check.same("not before load", marsh.errorOffset(), 0);
        check.argument("the last byte", marsh::load);
        check.same("the last byte", marsh.errorOffset(), 799);
    }

    private void refusesToTellNoError() {
        check.about("P6", "Throws `NoSuchElementException` if hasError() is false");
        FalseLightMarsh marsh = new FalseLightMarsh();
        check.element("no call of load", marsh::errorOffset);
        check.argument("an error", marsh::load);
        check.same("an error", marsh.errorOffset(), 0);
        Marsh.append(marsh, FIRST);
        marsh.load();
        check.element("a right text", marsh::errorOffset);
    }

    private void tellsColumnsAndRows() {
        check.about("P7", "Returns the number of columns.");
        check.same("the least", Marsh.of(Marsh.field(2, 12, 0)).width(), 2);
        check.same("the greatest", Marsh.of(Marsh.field(12, 2, 0)).width(), 12);
        check.about("P8", "Returns the number of rows.");
        check.same("the least", Marsh.of(Marsh.field(12, 2, 0)).height(), 2);
        check.same("the greatest", Marsh.of(Marsh.field(2, 12, 0)).height(), 12);
    }

    private void refusesCells() {
        String refusal = "Throws `IndexOutOfBoundsException` if the cell is not in the marsh";
        refusesCells("P9", refusal, FalseLightMarsh::isWater);
        refusesCells("P10", refusal, FalseLightMarsh::isHut);
        refusesCells("P11", refusal, FalseLightMarsh::isPlank);
        refusesCells("P12", refusal, FalseLightMarsh::plankStrength);
        refusesCells("P15", refusal, FalseLightMarsh::stepsToHut);
        refusesCells("P53", refusal, (marsh, x, y) -> marsh.addLight(x, y, 0, true));
        refusesCells("P54", refusal, FalseLightMarsh::addTraveller);
        refusesCells("P57", refusal, (marsh, x, y) -> marsh.layPlank(x, y, 1));
        String either = "Throws `IndexOutOfBoundsException` if one of the cells is not in the marsh";
        refusesCells("P14", either, (marsh, x, y) -> marsh.pathLength(x, y, 1, 1));
        refusesCells("P14", either, (marsh, x, y) -> marsh.pathLength(1, 1, x, y));
        refusesCells("P14", either, (marsh, x, y) -> marsh.pathLength(x, y, x, y));
    }

    private void refusesCells(String promise, String refusal, OnCell call) {
        check.about(promise, refusal);
        int[][] sizes = {{2, 2}, {4, 3}, {3, 4}, {2, 12}, {12, 2}, {12, 12}};
        for (int[] size : sizes) {
            // A marsh that was as great as can be before: nothing of that is in it.
            FalseLightMarsh marsh = Marsh.of(Marsh.field(12, 12, 0));
            Marsh.append(marsh, Marsh.field(size[0], size[1], 0));
            marsh.load();
            int[][] outside = {{-1, 0}, {0, -1}, {-1, -1}, {size[0], 0}, {0, size[1]}, {size[0], size[1]}, {size[0], size[1] - 1}, {size[0] - 1, size[1]},
                    {-1, 1}, {-12, 1}, {12, 0}, {0, 12}, {12, -1}, {Integer.MIN_VALUE, 0}, {0, Integer.MIN_VALUE}, {Integer.MAX_VALUE, 0}, {0, Integer.MAX_VALUE}};
            for (int[] cell : outside) {
                check.index(cell[0] + " " + cell[1] + " of " + size[0] + " " + size[1], () -> call.ask(marsh, cell[0], cell[1]));
            }
            int[][] corners = {{0, 0}, {size[0] - 1, 0}, {0, size[1] - 1}, {size[0] - 1, size[1] - 1}};
            for (int[] cell : corners) {
                check.notIndex(cell[0] + " " + cell[1] + " of " + size[0] + " " + size[1], () -> call.ask(marsh, cell[0], cell[1]));
            }
        }
    }

    private void tellsWhatIsNoPlank() {
        FalseLightMarsh marsh = Marsh.of("marsh 4 2 clear 9;row fwhp;row wwpf;light 3 1 0 true;traveller 2 1;");
        check.about("P9", "Returns whether the cell is water.");
        check.yes("water", marsh.isWater(1, 0));
        check.no("ground, hut or plank", marsh.isWater(0, 0) || marsh.isWater(2, 0) || marsh.isWater(3, 0));
        check.about("P10", "Returns whether the cell is a hut.");
        check.yes("a hut", marsh.isHut(2, 0));
        check.no("ground, water or plank", marsh.isHut(0, 0) || marsh.isHut(1, 0) || marsh.isHut(3, 0));
        check.about("P11", "Returns whether the cell is a plank.");
        check.yes("a plank", marsh.isPlank(3, 0));
        check.no("ground, water or hut", marsh.isPlank(0, 0) || marsh.isPlank(1, 0) || marsh.isPlank(2, 0));
        check.about("P12", "Throws `NoSuchElementException` if the cell is not a plank");
        check.element("firm ground", () -> marsh.plankStrength(0, 0));
        check.element("water", () -> marsh.plankStrength(1, 0));
        check.element("a hut", () -> marsh.plankStrength(2, 0));
        check.same("a plank", marsh.plankStrength(3, 0), 3);
        marsh.layPlank(2, 1, 1);
        check.same("the least", marsh.plankStrength(2, 1), 1);
        marsh.tick(1);
        check.element("worn down to nothing", () -> marsh.plankStrength(2, 1));
        check.yes("P9 it is water", marsh.isWater(2, 1));
        check.no("P11 it is no plank", marsh.isPlank(2, 1));
        marsh.layPlank(2, 1, 9);
        check.same("the greatest", marsh.plankStrength(2, 1), 9);
    }

    private void countsPlanks() {
        check.about("P13", "Returns the number of planks.");
        check.same("none", Marsh.of("marsh 2 2 clear 0;row fw;row hw;").plankCount(), 0);
        FalseLightMarsh full = Marsh.of("marsh 12 12 clear 0;" + "row wwwwwwwwwwww;".repeat(12));
        for (int n = 0; n < 144; n++) {
            check.same("one more", full.layPlank(n % 12, n / 12, 1 + n % 9), n + 1);
        }
        check.same("everywhere", full.plankCount(), 144);
        Marsh.append(full, "marsh 2 2 clear 0;row pf;row fp;");
        full.load();
        check.same("none of an earlier text", full.plankCount(), 2);
    }

    private void refusesToTellNoPath() {
        check.about("P14", "Throws `NoSuchElementException` if there is no path");
        FalseLightMarsh marsh = Marsh.of("marsh 5 3 clear 0;row ffwff;row ffwwf;row ffwfw;");
        check.element("water between", () -> marsh.pathLength(0, 0, 4, 0));
        check.element("water last", () -> marsh.pathLength(0, 0, 2, 0));
        check.element("ground among water", () -> marsh.pathLength(4, 0, 3, 2));
        check.element("from ground among water", () -> marsh.pathLength(3, 2, 4, 1));
        check.same("from water to its neighbour", marsh.pathLength(2, 2, 3, 2), 1);
        check.same("the longest way of a straight line", Marsh.of(Marsh.field(12, 12, 0)).pathLength(0, 11, 11, 0), 22);
        FalseLightMarsh winding = Marsh.of(Marsh.winding(0, 'f'));
        check.same("a way of 77 steps", winding.pathLength(0, 0, 0, 11), 77);
        check.same("and back", winding.pathLength(0, 11, 0, 0), 77);
    }

    private void refusesToTellNoHut() {
        check.about("P15", "Throws `NoSuchElementException` if there is no path to a hut");
        check.element("no hut", () -> Marsh.of(Marsh.field(12, 12, 0)).stepsToHut(5, 5));
        FalseLightMarsh marsh = Marsh.of("marsh 5 2 clear 0;row fwhwf;row wwwww;");
        check.element("a hut among water", () -> marsh.stepsToHut(0, 0));
        check.same("the water beside it", marsh.stepsToHut(1, 0), 1);
        check.same("the hut itself", marsh.stepsToHut(2, 0), 0);
        check.element("water without ground beside it", () -> marsh.stepsToHut(1, 1));
        check.about("P15", "Returns the length of the shortest path to any hut.");
        FalseLightMarsh two = Marsh.of("marsh 6 2 clear 0;row hffffh;row wffffw;");
        int[] due = {0, 1, 2, 2, 1, 0};
        for (int x = 0; x < 6; x++) {
            check.same("column " + x, two.stepsToHut(x, 0), due[x]);
        }
        check.same("the last cell of the longest way", Marsh.of(Marsh.winding(0, 'h')).stepsToHut(0, 0), 77);
    }

    private void tellsTimeAndClearness() {
        check.about("P16", "Returns the time.");
        FalseLightMarsh marsh = Marsh.of(Marsh.field(2, 2, 20));
        check.same("the first", marsh.time(), 0);
        Marsh.tickTo(marsh, 9999);
        check.same("the last", marsh.time(), 9999);
        check.about("P17", "Returns the clearness.");
        check.same("the greatest", marsh.clearness(), 20);
        check.same("the least", Marsh.of(Marsh.field(2, 2, 0)).clearness(), 0);
    }

    private void refusesHours() {
        FalseLightMarsh marsh = Marsh.of(Marsh.field(2, 2, 9) + "fog 0 9;fog 23 1;");
        check.about("P18", "Throws `IndexOutOfBoundsException` if hour is out of range");
        check.same("hour 0", marsh.fog(0), 9);
        check.same("hour 23", marsh.fog(23), 1);
        for (int hour : new int[] {-1, 24, 25, -24, 47, Integer.MIN_VALUE, Integer.MAX_VALUE}) {
            check.index("hour " + hour, () -> marsh.fog(hour));
        }
    }

    private void tellsSight() {
        check.about("P19", "Returns the sight.");
        FalseLightMarsh marsh = Marsh.of(Marsh.field(2, 2, 20) + "fog 0 9;fog 1 0;");
        check.same("in fog", marsh.sight(), 11);
        marsh.setClearness(9);
        check.same("just none", marsh.sight(), 0);
        marsh.setClearness(8);
        check.same("not less than none", marsh.sight(), 0);
        marsh.tick(1);
        check.same("without fog", marsh.sight(), 8);
        marsh.setClearness(20);
        check.same("the greatest", marsh.sight(), 20);
    }

    private void countsLights() {
        check.about("P20", "Returns the number of lights.");
        check.same("none", new FalseLightMarsh().lightCount(), 0);
        check.same("all", Marsh.of(Marsh.field(8, 2, 0) + EIGHT_LIGHTS).lightCount(), 8);
    }

    private void tellsLightsAtTheEdges() {
        FalseLightMarsh marsh = Marsh.of(Marsh.field(12, 12, 0) + "light 0 11 0 true;light 11 0 9 false next 0;");
        check.about("P21", "Returns the column of its cell.");
        check.same("the first", marsh.lightColumn(0), 0);
        check.same("the last", marsh.lightColumn(1), 11);
        check.about("P22", "Returns the row of its cell.");
        check.same("the last", marsh.lightRow(0), 11);
        check.same("the first", marsh.lightRow(1), 0);
        check.about("P23", "Returns its brightness.");
        check.same("the least", marsh.brightness(0), 0);
        check.same("the greatest", marsh.brightness(1), 9);
        check.about("P24", "Returns whether it is true.");
        check.yes("true", marsh.isTrueLight(0));
        check.no("false", marsh.isTrueLight(1));
        check.about("P25", "Returns whether it has a successor.");
        check.no("none", marsh.hasSuccessor(0));
        check.yes("light 0 is one", marsh.hasSuccessor(1));
        check.about("P26", "Returns its successor.");
        check.same("light 0", marsh.successor(1), 0);
    }

    private void refusesLights() {
        String refusal = "Throws `IndexOutOfBoundsException` if there is no such light";
        refusesLights("P21", refusal, FalseLightMarsh::lightColumn);
        refusesLights("P22", refusal, FalseLightMarsh::lightRow);
        refusesLights("P23", refusal, FalseLightMarsh::brightness);
        refusesLights("P24", refusal, FalseLightMarsh::isTrueLight);
        refusesLights("P25", refusal, FalseLightMarsh::hasSuccessor);
        refusesLights("P26", refusal, FalseLightMarsh::successor);
        refusesLights("P27", refusal, FalseLightMarsh::followers);
        refusesLights("P28", refusal, FalseLightMarsh::leadsAstray);
        refusesLights("P55", refusal, (marsh, light) -> marsh.setSuccessor(light, 0));
        refusesLights("P55", refusal, (marsh, light) -> marsh.setSuccessor(0, light));
        refusesLights("P55", refusal, (marsh, light) -> marsh.setSuccessor(light, light));
        refusesLights("P56", refusal, FalseLightMarsh::clearSuccessor);
        String either = "Throws `IndexOutOfBoundsException` if there is no such traveller or light";
        refusesLights("P38", either, (marsh, light) -> marsh.hasPassed(0, light));
        refusesLights("P39", either, (marsh, light) -> marsh.distrusts(0, light));
        refusesLights("P40", either, (marsh, light) -> marsh.sees(0, light));
        refusesLights("P60", either, (marsh, light) -> marsh.setTarget(0, light));
    }

    private void refusesLights(String promise, String refusal, OnNumber call) {
        check.about(promise, refusal);
        String text = Marsh.field(8, 2, 0);
        for (int count : new int[] {0, 1, 3, 8}) {
            // The lights that there were before are no lights any more.
            FalseLightMarsh marsh = Marsh.of(text + EIGHT_LIGHTS);
            Marsh.append(marsh, text + EIGHT_LIGHTS.substring(0, count == 8 ? EIGHT_LIGHTS.length() : 17 * count) + "traveller 0 1;");
            marsh.load();
            check.index("the number " + count + " of " + count, () -> call.ask(marsh, count));
            for (int number : ODD_NUMBERS) {
                check.index("the number " + number + " of " + count, () -> call.ask(marsh, number));
            }
            if (count > 0) {
                check.notIndex("the last of " + count, () -> call.ask(marsh, count - 1));
                check.notIndex("the first of " + count, () -> call.ask(marsh, 0));
            }
        }
    }

    private void refusesToTellNoSuccessor() {
        FalseLightMarsh marsh = Marsh.of(Marsh.field(3, 2, 0) + "light 0 0 0 true;light 1 0 0 true next 0;");
        check.about("P26", "Throws `NoSuchElementException` if it has no successor");
        check.element("it has none", () -> marsh.successor(0));
        check.same("it has light 0", marsh.successor(1), 0);
        marsh.clearSuccessor(1);
        check.element("it has none any more", () -> marsh.successor(1));
        marsh.addLight(2, 0, 0, true);
        check.element("one that was added has none", () -> marsh.successor(2));
        check.about("P56", "Throws `NoSuchElementException` if it has no successor");
        check.element("it never had one", () -> marsh.clearSuccessor(0));
        check.element("it has none any more", () -> marsh.clearSuccessor(1));
        marsh.setSuccessor(2, 0);
        check.same("light 0 is one", marsh.clearSuccessor(2), 0);
    }

    private void countsFollowers() {
        check.about("P27", "Returns the number of walking travellers whose target it is.");
        FalseLightMarsh marsh = Marsh.of(Marsh.field(4, 2, 1) + "light 0 0 0 true;light 3 0 0 false;" + "traveller 1 1;".repeat(6));
        check.same("none, though all are without a target", marsh.followers(0), 0);
        for (int traveller = 0; traveller < 6; traveller++) {
            marsh.setTarget(traveller, 1);
            check.same("one more", marsh.followers(1), traveller + 1);
        }
        check.same("none of another one", marsh.followers(0), 0);
        marsh.tick(3);
        check.same("one has sunk, and the others there were warned", marsh.sunkCount() * 10 + marsh.followers(1), 10);
    }

    private void visitsAllLightsInTurn() {
        check.about("P28", "comes to a false light or comes again to a light that was visited before (the light itself and all its successors are visited in turn)");
        String text = Marsh.field(8, 2, 0);
        FalseLightMarsh alone = Marsh.of(text + "light 0 0 0 true;light 1 0 0 false;");
        check.no("a true light without a successor", alone.leadsAstray(0));
        check.yes("a false one without a successor", alone.leadsAstray(1));
        FalseLightMarsh row = Marsh.of(text + EIGHT_LIGHTS);
        for (int light = 0; light < 7; light++) {
            check.same("the row of " + (light + 1) + " behind the false one", row.setSuccessor(6 - light, 7 - light), light + 2);
        }
        check.yes("the false one is the last of eight", row.leadsAstray(0));
        FalseLightMarsh ring = Marsh.of(text + EIGHT_LIGHTS.replace("false", "true"));
        for (int light = 0; light < 7; light++) {
            check.same("true ones in a row", ring.setSuccessor(light, light + 1), 0);
        }
        check.no("the longest row", ring.leadsAstray(0));
        check.same("the longest ring", ring.setSuccessor(7, 0), 8);
        check.same("a row of six that leads to a ring of two", ring.setSuccessor(7, 6), 8);
        check.yes("the first of the row", ring.leadsAstray(0));
    }
}
