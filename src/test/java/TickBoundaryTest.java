/** Each sentence of Terms 4 that names a boundary case, in the document's order, with a test of its own. */
final class TickBoundaryTest {

    private static final String NOTHING = " target -1 passed distrusts";
    private static final Check check = new Check();

    public static void main(String[] args) {
        increasesTheTimeByOne();
        letsTravellersActInTheirOrder();
        takesTheLowestNumberOfSeveral();
        doesNothingWithoutALight();
        givesUpWithoutAPath();
        movesAlongAShortestPath();
        prefersUpRightDownLeft();
        wearsPlanksThatAreLeft();
        turnsWornPlanksIntoWater();
        leavesTravellersOnWater();
        leavesLightsOnWater();
        arrivesOnHuts();
        sinksAtFalseLights();
        warnsUpToTheSight();
        takesTheTargetOfThoseWarned();
        passesTrueLights();
        goesOnToSuccessors();
        stopsWithoutASuccessor();
        Document.compare(check, false);
        check.end();
    }

    private static void increasesTheTimeByOne() {
        check.about("T4", "A tick increases the time by 1.");
        FalseLightMarsh empty = Marsh.of(Marsh.field(2, 2, 0));
        empty.tick(1);
        check.same("without travellers", empty.time(), 1);
        empty.tick(100);
        check.same("100 times, though nothing happens", empty.time(), 101);
    }

    private static void letsTravellersActInTheirOrder() {
        check.about("T4", "Then every traveller who is walking acts, in the order of the numbers.");
        FalseLightMarsh order = Marsh.of(Marsh.field(4, 2, 9) + "light 0 0 0 false;traveller 1 0;traveller 1 0;");
        order.tick(1);
        check.same("the first one sinks", Marsh.traveller(order, 0), "0,0 sunk steps 1" + NOTHING);
        check.same("the second one is warned before it acts", Marsh.traveller(order, 1), "1,0 walking steps 0 target -1 passed distrusts 0");
        order.tick(1);
        check.same("one who sank acts no more", Marsh.traveller(order, 0), "0,0 sunk steps 1" + NOTHING);
        FalseLightMarsh hour = Marsh.of(Marsh.field(3, 2, 1) + "fog 1 9;light 1 0 0 true;traveller 0 0;");
        hour.tick(1);
        check.same("after the time has changed: in the fog of hour 1", Marsh.traveller(hour, 0), "0,0 walking steps 0" + NOTHING);
        FalseLightMarsh night = Marsh.of(Marsh.field(3, 2, 9) + Marsh.fogs(0, 23, 9).replace("fog 0 9;", "") + "light 1 0 0 true;traveller 0 0;");
        night.tick(23);
        check.same("hours 1 to 23 are dark", night.stepsTaken(0), 0);
        night.tick(1);
        check.same("hour 0 of the next day is not", night.stepsTaken(0), 1);
    }

    private static void takesTheLowestNumberOfSeveral() {
        check.about("T4", "If several lights have this distance, the one with the lowest number is taken.");
        FalseLightMarsh ring = Marsh.of(Marsh.field(5, 5, 9) + "light 4 4 0 true;light 2 4 0 true;light 4 2 0 true;light 2 0 0 true;light 0 2 0 true;traveller 2 2;");
        ring.tick(1);
        check.same("four at distance 2", ring.target(0), 1);
    }

    private static void doesNothingWithoutALight() {
        check.about("T4", "If no light is acceptable, the action ends.");
        FalseLightMarsh none = Marsh.of(Marsh.field(3, 2, 0) + "light 2 0 1 true;traveller 0 0;");
        none.tick(1);
        check.same("it stands", Marsh.traveller(none, 0), "0,0 walking steps 0" + NOTHING);
        none.setClearness(1);
        none.tick(1);
        check.same("until there is one", Marsh.traveller(none, 0), "1,0 walking steps 1 target 0 passed distrusts");
    }

    private static void givesUpWithoutAPath() {
        check.about("T4", "if the traveller is not on the cell of the target and there is no path to that cell, the target counts as passed, the traveller has no target, and the action ends");
        FalseLightMarsh cut = Marsh.of("marsh 4 2 clear 9;row fwff;row fwff;light 2 0 0 true;light 0 1 0 true;traveller 0 0;");
        cut.setSuccessor(0, 1);
        cut.setTarget(0, 0);
        cut.tick(1);
        check.same("neither its successor nor another light is taken in the same tick", Marsh.traveller(cut, 0), "0,0 walking steps 0 target -1 passed 0 distrusts");
        FalseLightMarsh islet = Marsh.of("marsh 3 2 clear 9;row pwf;row wwf;light 0 0 0 true;light 2 0 0 true;traveller 0 0;traveller 0 0;");
        islet.tick(1);
        check.same("on the cell of the target no path is needed", Marsh.traveller(islet, 0), "0,0 walking steps 0 target -1 passed 0 distrusts");
    }

    private static void movesAlongAShortestPath() {
        check.about("T4", "If the traveller is not on that cell and there is a path, the traveller moves one step along a shortest path.");
        FalseLightMarsh step = Marsh.of("marsh 4 3 clear 9;row fffw;row fwff;row ffff;light 2 1 0 true;traveller 0 0;traveller 0 2;");
        step.tick(1);
        check.same("one step", step.stepsTaken(0), 1);
        step.tick(2);
        check.same("as many as the shortest path has", Marsh.traveller(step, 0), "2,1 walking steps 3 target -1 passed 0 distrusts");
        check.same("from the other side", Marsh.traveller(step, 1), "2,1 walking steps 3 target -1 passed 0 distrusts");
    }

    private static void prefersUpRightDownLeft() {
        check.about("T4", "If several adjacent cells are on a shortest path, the first one in the order up, right, down, left is taken. (Up is the row with the number one lower.)");
        int[][] goals = {{3, 1}, {3, 3}, {1, 3}, {1, 1}};
        String[] due = {"2,1", "3,2", "2,3", "2,1"};
        String[] why = {"up before right", "right before down", "down before left", "up before left"};
        for (int n = 0; n < 4; n++) {
            FalseLightMarsh cross = Marsh.of(Marsh.field(5, 5, 9) + "light " + goals[n][0] + " " + goals[n][1] + " 0 true;traveller 2 2;");
            cross.tick(1);
            check.same(why[n], Marsh.traveller(cross, 0), due[n] + " walking steps 1 target 0 passed distrusts");
        }
        FalseLightMarsh upOrDown = Marsh.of("marsh 3 3 clear 9;row fff;row fwf;row fff;light 2 1 0 true;traveller 0 1;");
        upOrDown.tick(1);
        check.same("up before down", Marsh.traveller(upOrDown, 0), "0,0 walking steps 1 target 0 passed distrusts");
        FalseLightMarsh rightOrLeft = Marsh.of("marsh 3 3 clear 9;row fff;row fwf;row fff;light 1 2 0 true;traveller 1 0;");
        rightOrLeft.tick(1);
        check.same("right before left", Marsh.traveller(rightOrLeft, 0), "2,0 walking steps 1 target 0 passed distrusts");
        FalseLightMarsh detour = Marsh.of("marsh 3 3 clear 9;row fff;row fff;row wff;light 1 2 0 true;traveller 1 0;");
        detour.tick(1);
        check.same("only those on a shortest path", Marsh.traveller(detour, 0), "1,1 walking steps 1 target 0 passed distrusts");
    }

    private static void wearsPlanksThatAreLeft() {
        check.about("T4", "If the traveller leaves a plank, its strength decreases by 1.");
        FalseLightMarsh three = Marsh.of("marsh 3 2 clear 9;row pff;row www;light 2 0 0 true;traveller 0 0;traveller 0 0;traveller 0 0;traveller 0 0;");
        three.layPlank(0, 0, 9);
        three.tick(1);
        check.same("by four who leave", three.plankStrength(0, 0), 5);
        FalseLightMarsh enter = Marsh.of("marsh 3 2 clear 9;row fpf;row www;light 1 0 0 true;traveller 0 0;");
        enter.tick(3);
        check.same("not by one who comes and stands", enter.plankStrength(1, 0), 3);
    }

    private static void turnsWornPlanksIntoWater() {
        check.about("T4", "A plank whose strength becomes 0 turns into water.");
        FalseLightMarsh last = Marsh.of("marsh 3 2 clear 9;row pff;row www;light 2 0 0 true;traveller 0 0;traveller 0 0;traveller 0 0;");
        last.setTarget(2, 0);
        last.layPlank(0, 0, 4);
        last.tick(1);
        check.same("strength 1 is left", last.plankStrength(0, 0), 1);
        check.no("not yet water", last.isWater(0, 0));
        last.undo();
        last.layPlank(0, 0, 3);
        last.tick(1);
        check.yes("water", last.isWater(0, 0));
        check.same("no plank", last.plankCount(), 0);
        check.no("neither", last.isPlank(0, 0));
        FalseLightMarsh round = Marsh.of("marsh 3 3 clear 9;row fpf;row fwf;row fff;light 2 0 0 true;traveller 1 0;traveller 0 0;traveller 0 0;");
        round.layPlank(1, 0, 1);
        round.tick(2);
        check.same("from the same tick on, the shortest path leads round it", Marsh.traveller(round, 1), "0,2 walking steps 2 target 0 passed distrusts");
        round.undo();
        round.layPlank(1, 0, 2);
        round.tick(2);
        check.same("not before", Marsh.traveller(round, 1), "2,0 walking steps 2 target -1 passed 0 distrusts");
        check.same("nor for one who stands on it as it breaks", Marsh.traveller(round, 2), "2,0 walking steps 2 target -1 passed 0 distrusts");
    }

    private static void leavesTravellersOnWater() {
        check.about("T4", "Travellers on a cell that turns into water stay there and can leave it later.");
        FalseLightMarsh sea = Marsh.of("marsh 4 2 clear 0;row ppff;row wwww;light 3 0 0 true;traveller 1 0;traveller 1 0;traveller 0 0;");
        sea.layPlank(1, 0, 1);
        sea.setTarget(0, 0);
        sea.tick(1);
        check.yes("water", sea.isWater(1, 0));
        check.same("it stays", Marsh.traveller(sea, 1), "1,0 walking steps 0" + NOTHING);
        sea.setTarget(1, 0);
        sea.setTarget(2, 0);
        sea.tick(1);
        check.same("it leaves", Marsh.traveller(sea, 1), "2,0 walking steps 1 target 0 passed distrusts");
        check.yes("what it left stays water", sea.isWater(1, 0));
        check.same("nobody goes there any more", Marsh.traveller(sea, 2), "0,0 walking steps 0 target -1 passed 0 distrusts");
        FalseLightMarsh alone = Marsh.of("marsh 4 2 clear 9;row fpwf;row wwww;light 0 0 0 true;light 3 0 0 true;traveller 1 0;traveller 1 0;");
        alone.layPlank(1, 0, 1);
        alone.setTarget(1, 1);
        alone.tick(1);
        check.same("it has no path from water over water", Marsh.traveller(alone, 1), "1,0 walking steps 0 target -1 passed 1 distrusts");
        alone.tick(1);
        check.same("but one to the ground beside it", Marsh.traveller(alone, 1), "0,0 walking steps 1 target -1 passed 0 1 distrusts");
    }

    private static void leavesLightsOnWater() {
        check.about("T4", "A light on this cell stays.");
        FalseLightMarsh light = Marsh.of("marsh 3 2 clear 0;row ppf;row www;light 0 0 3 false;light 2 0 0 true;traveller 0 0;traveller 1 0;");
        light.layPlank(0, 0, 1);
        light.setTarget(0, 1);
        light.tick(1);
        check.yes("water", light.isWater(0, 0));
        check.same("the light", light.lightCount() * 100 + light.lightColumn(0) * 10 + light.brightness(0), 203);
        check.same("it is still seen, but there is no path to it", Marsh.traveller(light, 1), "1,0 walking steps 0 target -1 passed 0 distrusts");
    }

    private static void arrivesOnHuts() {
        check.about("T4", "a traveller who is on a hut has arrived and has no target");
        FalseLightMarsh hut = Marsh.of("marsh 4 2 clear 9;row fhff;row wwww;light 3 0 0 true;light 1 0 0 false;traveller 0 0;traveller 0 0;");
        hut.setTarget(0, 0);
        hut.setTarget(1, 1);
        check.same("on the way, and at a false light", hut.tick(1), 2);
        check.same("on the way", Marsh.traveller(hut, 0), "1,0 arrived steps 1" + NOTHING);
        check.same("at a false light", Marsh.traveller(hut, 1), "1,0 arrived steps 1" + NOTHING);
    }

    private static void sinksAtFalseLights() {
        check.about("T4", "Otherwise, if the traveller is on the cell of the target and the light is false, the traveller has sunk and has no target.");
        FalseLightMarsh sink = Marsh.of(Marsh.field(4, 2, 0) + "light 1 0 0 false;light 3 0 0 true;traveller 0 0;traveller 1 1;");
        sink.setTarget(0, 1);
        sink.setTarget(1, 0);
        sink.tick(1);
        check.same("it steps on a false light that is not its target, and is warned there", Marsh.traveller(sink, 0), "1,0 walking steps 1 target 1 passed distrusts 0");
        check.same("the other one sinks there", Marsh.traveller(sink, 1), "1,0 sunk steps 1" + NOTHING);
    }

    private static void warnsUpToTheSight() {
        check.about("T4", "Every other walking traveller whose distance to this cell is at most the sight (the brightness does not matter here) distrusts the light from then on");
        FalseLightMarsh warn = Marsh.of(Marsh.field(6, 2, 4) + "fog 0 9;fog 1 2;light 0 0 9 false;light 5 0 0 true;traveller 0 0;traveller 2 0;traveller 3 0;traveller 1 1;traveller 0 0;");
        warn.setTarget(1, 1);
        warn.setTarget(2, 1);
        warn.setTarget(3, 1);
        warn.setTarget(4, 1);
        warn.tick(1);
        check.same("the one who sank does not", Marsh.traveller(warn, 0), "0,0 sunk steps 0" + NOTHING);
        check.yes("sight 2, distance 2", warn.distrusts(1, 0));
        check.no("sight 2, distance 3", warn.distrusts(2, 0));
        check.yes("distance 1 and 1", warn.distrusts(3, 0));
        check.yes("distance 0", warn.distrusts(4, 0));
        warn.undo();
        warn.setFog(1, 9);
        warn.tick(1);
        check.no("sight 0, distance 2", warn.distrusts(1, 0));
        check.yes("sight 0, distance 0", warn.distrusts(4, 0));
        FalseLightMarsh done = Marsh.of(Marsh.field(4, 2, 3).replace("row ffff;row ffff;", "row fffh;row ffff;") + "light 0 0 0 false;light 3 0 0 true;light 0 1 0 false;"
                + "traveller 0 1;traveller 2 0;traveller 0 0;");
        done.tick(1);
        check.same("one who has arrived does not, but was warned before of another light", Marsh.traveller(done, 1), "3,0 arrived steps 1 target -1 passed distrusts 2");
        check.same("nor one who has sunk", Marsh.traveller(done, 0), "0,1 sunk steps 0" + NOTHING);
        check.same("one who sinks after it was warned keeps that", Marsh.traveller(done, 2), "0,0 sunk steps 0 target -1 passed distrusts 2");
    }

    private static void takesTheTargetOfThoseWarned() {
        check.about("T4", "and has no target if it was the target");
        FalseLightMarsh target = Marsh.of(Marsh.field(5, 2, 9) + "light 0 0 0 false;light 4 0 0 true;traveller 0 0;traveller 3 1;traveller 2 1;");
        target.setTarget(1, 1);
        target.setTarget(2, 0);
        target.tick(1);
        check.same("it was not", Marsh.traveller(target, 1), "3,0 walking steps 1 target 1 passed distrusts 0");
        check.same("it was: another one is taken", Marsh.traveller(target, 2), "2,0 walking steps 1 target 1 passed distrusts 0");
        FalseLightMarsh later = Marsh.of(Marsh.field(5, 2, 9) + "light 0 0 0 false;traveller 3 1;traveller 0 0;");
        later.tick(1);
        check.same("it was, of one who had acted", Marsh.traveller(later, 0), "3,0 walking steps 1 target -1 passed distrusts 0");
    }

    private static void passesTrueLights() {
        check.about("T4", "Otherwise, if the traveller is on the cell of the target, the light counts as passed.");
        FalseLightMarsh pass = Marsh.of(Marsh.field(4, 2, 9) + "light 1 0 0 true;light 2 0 0 true;traveller 0 0;traveller 1 0;");
        pass.setTarget(0, 1);
        pass.tick(1);
        check.same("over a light that is not the target", Marsh.traveller(pass, 0), "1,0 walking steps 1 target 1 passed distrusts");
        check.same("without a step", Marsh.traveller(pass, 1), "1,0 walking steps 0 target -1 passed 0 distrusts");
    }

    private static void goesOnToSuccessors() {
        check.about("T4", "Its successor becomes the target, even if it is not seen.");
        FalseLightMarsh chain = Marsh.of(Marsh.field(12, 12, 0) + "light 11 11 0 true;light 0 0 0 true next 0;traveller 0 0;");
        chain.tick(1);
        check.same("as far as can be, in the dark", Marsh.traveller(chain, 0), "0,0 walking steps 0 target 0 passed 1 distrusts");
    }

    private static void stopsWithoutASuccessor() {
        check.about("T4", "If the light has no successor, or the successor was passed or is distrusted, the traveller has no target.");
        FalseLightMarsh two = Marsh.of(Marsh.field(3, 2, 0) + "light 0 0 0 true;light 1 0 0 true next 0;light 2 0 0 false;light 1 1 0 true next 2;"
                + "traveller 0 0;traveller 2 0;traveller 2 0;");
        two.tick(1);
        check.same("no successor", Marsh.traveller(two, 0), "0,0 walking steps 0 target -1 passed 0 distrusts");
        two.setTarget(0, 1);
        two.setTarget(2, 3);
        two.tick(2);
        check.same("the successor was passed", Marsh.traveller(two, 0), "1,0 walking steps 1 target -1 passed 0 1 distrusts");
        check.same("the successor is distrusted", Marsh.traveller(two, 2), "1,1 walking steps 2 target -1 passed 3 distrusts 2");
    }
}
