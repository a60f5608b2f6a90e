/** A tick (Terms 4), and promise 52. */
final class TickTest {

    private static final Check check = new Check();

    public static void main(String[] args) {
        countsTime();
        refusesCounts();
        countsArrivals();
        looksWithTheNewHour();
        takesTheNearestLight();
        idlesWithoutALight();
        prefersUpRightDownLeft();
        doesNotStepOnWaterAsNearAsTheWay();
        wearsPlanks();
        staysOnAPlankThatBroke();
        findsNewWaysAfterAPlankBroke();
        givesUpWithoutAPath();
        givesUpALightOnWater();
        arrivesOnAHutOnTheWay();
        arrivesOnAHutWithAFalseLight();
        followsSuccessors();
        sinksAndWarns();
        distrustsManyLights();
        looksForTheWayAnewAfterChanges();
        actsInTheOrderOfNumbers();
        check.end();
    }

    private static void countsTime() {
        FalseLightMarsh marsh = new FalseLightMarsh();
        check.same("P52 none arrives", marsh.tick(1), 0);
        check.same("P52 time", marsh.time(), 1);
        marsh.tick(100);
        check.same("P52 time", marsh.time(), 101);
        check.same("P52 it is one change", marsh.undo(), 1);
        check.same("P52 undone", marsh.time(), 1);
    }

    private static void refusesCounts() {
        FalseLightMarsh marsh = new FalseLightMarsh();
        check.argument("P52 count 0", () -> marsh.tick(0));
        check.argument("P52 count 101", () -> marsh.tick(101));
        check.argument("P52 count -1", () -> marsh.tick(-1));
        check.argument("P52 greatest count", () -> marsh.tick(Integer.MAX_VALUE));
        check.state("P52 no change", marsh::undo);
        for (int n = 0; n < 99; n++) {
            marsh.tick(100);
        }
        check.state("P52 10000", () -> marsh.tick(100));
        check.argument("P52 the count comes before the time", () -> marsh.tick(101));
        check.same("P52 nothing changed", marsh.time(), 9900);
        marsh.tick(99);
        check.same("P52 the last time", marsh.time(), 9999);
        check.state("P52 no more", () -> marsh.tick(1));
        marsh.undo();
        check.same("P52 undone", marsh.time(), 9900);
    }

    private static void countsArrivals() {
        FalseLightMarsh marsh = Marsh.of("marsh 5 2 clear 9;row fffff;row fffhf;light 3 1 9 true;"
                + "traveller 3 0;traveller 4 1;traveller 0 0;traveller 1 1;");
        check.same("P52 two arrive", marsh.tick(1), 2);
        check.same("P52 one more", marsh.tick(1), 1);
        check.same("P52 the last one", marsh.tick(50), 1);
        check.same("P52 none is left", marsh.tick(50), 0);
        check.same("P43 all", marsh.arrivedCount(), 4);
    }

    private static void looksWithTheNewHour() {
        FalseLightMarsh marsh = Marsh.of("marsh 5 2 clear 4;row fffff;row fffff;fog 1 1;light 4 0 0 true;traveller 0 0;");
        check.yes("T4 seen at hour 0", marsh.sees(0, 0));
        marsh.tick(1);
        check.same("T4 the fog of hour 1 hides it", Marsh.traveller(marsh, 0), "0,0 walking steps 0 target -1 passed distrusts");
        marsh.tick(1);
        check.same("T4 seen at hour 2", Marsh.traveller(marsh, 0), "1,0 walking steps 1 target 0 passed distrusts");
        marsh.setClearness(0);
        marsh.tick(1);
        check.same("T4 a target need not be seen", marsh.travellerColumn(0), 2);
    }

    private static void takesTheNearestLight() {
        FalseLightMarsh marsh = Marsh.of("marsh 7 2 clear 9;row fffffff;row fffffff;"
                + "light 6 0 0 true;light 0 0 0 true;light 4 1 0 true;light 2 1 0 true;traveller 3 0;traveller 6 1;");
        marsh.tick(1);
        check.same("T4 the lowest number of two at distance 2", marsh.target(0), 2);
        check.same("T4 the nearest, and it is reached", Marsh.traveller(marsh, 1), "6,0 walking steps 1 target -1 passed 0 distrusts");
        marsh.tick(1);
        check.same("T4 passed, without a target", Marsh.traveller(marsh, 0), "4,1 walking steps 2 target -1 passed 2 distrusts");
        marsh.tick(1);
        check.same("T4 the next nearest", Marsh.traveller(marsh, 0), "3,1 walking steps 3 target 3 passed 2 distrusts");
    }

    private static void idlesWithoutALight() {
        FalseLightMarsh marsh = Marsh.of("marsh 7 2 clear 1;row fffffff;row fffffff;light 6 0 0 true;traveller 3 0;traveller 6 0;");
        marsh.tick(3);
        check.same("T4 too far", Marsh.traveller(marsh, 0), "3,0 walking steps 0 target -1 passed distrusts");
        check.same("T4 it stands on the light", Marsh.traveller(marsh, 1), "6,0 walking steps 0 target -1 passed 0 distrusts");
    }

    private static void prefersUpRightDownLeft() {
        String field = "marsh 5 5 clear 20;" + "row fffff;".repeat(5);
        int[][] goals = {{3, 1}, {3, 3}, {1, 3}, {1, 1}, {2, 0}, {4, 2}, {2, 4}, {0, 2}};
        int[][] steps = {{2, 1}, {3, 2}, {2, 3}, {2, 1}, {2, 1}, {3, 2}, {2, 3}, {1, 2}};
        for (int n = 0; n < goals.length; n++) {
            FalseLightMarsh marsh = Marsh.of(field + "traveller 2 2;");
            marsh.addLight(goals[n][0], goals[n][1], 0, true);
            marsh.tick(1);
            check.same("T4 column to " + goals[n][0] + " " + goals[n][1], marsh.travellerColumn(0), steps[n][0]);
            check.same("T4 row to " + goals[n][0] + " " + goals[n][1], marsh.travellerRow(0), steps[n][1]);
        }
        FalseLightMarsh around = Marsh.of("marsh 5 3 clear 20;row fffff;row fwwwf;row fffff;light 4 1 0 true;traveller 0 1;");
        around.tick(1);
        check.same("T4 two ways of the same length: up", around.travellerRow(0), 0);
    }

    private static void doesNotStepOnWaterAsNearAsTheWay() {
        FalseLightMarsh marsh = Marsh.of("marsh 3 3 clear 20;row fwf;row fff;row fff;light 2 0 0 true;traveller 0 0;traveller 1 1;");
        marsh.tick(1);
        check.same("T4 round the water", Marsh.traveller(marsh, 0), "0,1 walking steps 1 target 0 passed distrusts");
        check.same("T4 not up over the water", Marsh.traveller(marsh, 1), "2,1 walking steps 1 target 0 passed distrusts");
    }

    private static void wearsPlanks() {
        FalseLightMarsh marsh = Marsh.of("marsh 5 2 clear 20;row fppff;row wwwww;light 4 0 0 true;traveller 0 0;traveller 2 0;");
        marsh.layPlank(2, 0, 9);
        marsh.tick(1);
        check.same("T4 one that is entered is not worn", marsh.plankStrength(1, 0), 3);
        check.same("T4 one that is left is worn", marsh.plankStrength(2, 0), 8);
        marsh.tick(2);
        check.same("T4 worn", marsh.plankStrength(1, 0), 2);
        check.same("T4 worn twice", marsh.plankStrength(2, 0), 7);
        marsh.tick(5);
        check.same("T4 worn no more", marsh.plankStrength(2, 0), 7);
        FalseLightMarsh still = Marsh.of("marsh 5 2 clear 20;row fpfff;row wwwww;light 1 0 0 true;traveller 1 0;");
        still.tick(3);
        check.same("T4 to stand wears nothing", still.plankStrength(1, 0), 3);
    }

    private static void staysOnAPlankThatBroke() {
        FalseLightMarsh marsh = Marsh.of("marsh 4 2 clear 20;row fpff;row wwww;light 3 0 0 true;traveller 1 0;traveller 1 0;traveller 0 0;");
        marsh.layPlank(1, 0, 1);
        marsh.setTarget(2, 0);
        marsh.tick(1);
        check.yes("T4 the plank turned into water", marsh.isWater(1, 0));
        check.same("P13 no plank is left", marsh.plankCount(), 0);
        check.same("T4 the first moved on", Marsh.traveller(marsh, 0), "2,0 walking steps 1 target 0 passed distrusts");
        check.same("T4 the second left from water", Marsh.traveller(marsh, 1), "2,0 walking steps 1 target 0 passed distrusts");
        check.same("T4 the third has no path any more", Marsh.traveller(marsh, 2), "0,0 walking steps 0 target -1 passed 0 distrusts");
        FalseLightMarsh later = Marsh.of("marsh 4 2 clear 0;row fpff;row wwww;light 3 0 0 true;traveller 1 0;traveller 1 0;");
        later.layPlank(1, 0, 1);
        later.setTarget(1, 0);
        later.tick(1);
        check.yes("T4 water under the first", later.isWater(1, 0));
        check.same("T4 it stays there", Marsh.traveller(later, 0), "1,0 walking steps 0 target -1 passed distrusts");
        later.tick(3);
        later.setClearness(9);
        later.tick(1);
        check.same("T4 it can leave later", Marsh.traveller(later, 0), "2,0 walking steps 1 target 0 passed distrusts");
    }

    private static void findsNewWaysAfterAPlankBroke() {
        FalseLightMarsh marsh = Marsh.of("marsh 4 3 clear 20;row fpff;row fwwf;row ffff;light 3 0 0 true;"
                + "traveller 0 0;traveller 0 0;traveller 1 0;");
        marsh.layPlank(1, 0, 1);
        marsh.tick(2);
        check.same("T4 over the plank with the last of its strength", Marsh.traveller(marsh, 0), "2,0 walking steps 2 target 0 passed distrusts");
        check.same("T4 both were on it when it broke", Marsh.traveller(marsh, 1), "2,0 walking steps 2 target 0 passed distrusts");
        FalseLightMarsh round = Marsh.of("marsh 4 3 clear 20;row fpff;row fwwf;row ffff;light 3 0 0 true;"
                + "traveller 1 0;traveller 0 0;");
        round.layPlank(1, 0, 1);
        round.tick(1);
        check.same("T4 the long way round in the same tick", Marsh.traveller(round, 1), "0,1 walking steps 1 target 0 passed distrusts");
        round.tick(6);
        check.same("T4 and to the end", Marsh.traveller(round, 1), "3,0 walking steps 7 target -1 passed 0 distrusts");
    }

    private static void givesUpWithoutAPath() {
        FalseLightMarsh marsh = Marsh.of("marsh 5 2 clear 20;row fwfff;row fwffh;light 3 0 0 true;light 0 1 0 true;traveller 0 0;traveller 2 0;");
        marsh.setTarget(0, 0);
        marsh.tick(1);
        check.same("T4 it passed, and waits", Marsh.traveller(marsh, 0), "0,0 walking steps 0 target -1 passed 0 distrusts");
        check.same("T4 the other one has a path", Marsh.traveller(marsh, 1), "3,0 walking steps 1 target -1 passed 0 distrusts");
        marsh.tick(1);
        check.same("T4 the next light", Marsh.traveller(marsh, 0), "0,1 walking steps 1 target -1 passed 0 1 distrusts");
        check.same("T4 no path over the water", Marsh.traveller(marsh, 1), "3,0 walking steps 1 target -1 passed 0 1 distrusts");
    }

    private static void givesUpALightOnWater() {
        FalseLightMarsh marsh = Marsh.of("marsh 4 2 clear 20;row fpff;row wwwf;light 1 0 0 true;light 3 0 0 true next 0;traveller 1 0;traveller 2 0;traveller 1 0;");
        marsh.layPlank(1, 0, 1);
        marsh.setTarget(0, 1);
        marsh.setTarget(1, 1);
        marsh.setTarget(2, 0);
        marsh.tick(1);
        check.yes("T4 the light's plank broke", marsh.isWater(1, 0));
        check.same("T4 the light stays", marsh.lightColumn(0), 1);
        check.same("T4 one stands on the cell and passes it", Marsh.traveller(marsh, 2), "1,0 walking steps 0 target -1 passed 0 distrusts");
        marsh.tick(1);
        check.same("T4 an unreachable successor becomes the target", Marsh.traveller(marsh, 0), "3,0 walking steps 2 target 0 passed 1 distrusts");
        marsh.tick(1);
        check.same("T4 and is given up", Marsh.traveller(marsh, 0), "3,0 walking steps 2 target -1 passed 0 1 distrusts");
    }

    private static void arrivesOnAHutOnTheWay() {
        FalseLightMarsh marsh = Marsh.of("marsh 4 2 clear 20;row fhff;row wwww;light 3 0 0 true;traveller 0 0;");
        check.same("T4 it arrives", marsh.tick(1), 1);
        check.same("T4 on the hut, without a target", Marsh.traveller(marsh, 0), "1,0 arrived steps 1 target -1 passed distrusts");
        marsh.tick(4);
        check.same("T4 and stays", Marsh.traveller(marsh, 0), "1,0 arrived steps 1 target -1 passed distrusts");
    }

    private static void arrivesOnAHutWithAFalseLight() {
        FalseLightMarsh marsh = Marsh.of("marsh 4 2 clear 20;row fhff;row wwww;light 1 0 0 false;traveller 0 0;traveller 3 0;");
        marsh.tick(1);
        check.same("T4 the hut counts first", Marsh.traveller(marsh, 0), "1,0 arrived steps 1 target -1 passed distrusts");
        check.same("T4 nobody is warned", Marsh.traveller(marsh, 1), "2,0 walking steps 1 target 0 passed distrusts");
    }

    private static void followsSuccessors() {
        FalseLightMarsh marsh = Marsh.of("marsh 9 2 clear 1;row fffffffff;row fffffffff;"
                + "light 1 0 0 true;light 8 0 0 true next 0;traveller 0 0;traveller 7 0;");
        marsh.setSuccessor(0, 1);
        marsh.tick(1);
        check.same("T4 the successor, though it is not seen", Marsh.traveller(marsh, 0), "1,0 walking steps 1 target 1 passed 0 distrusts");
        check.same("T4 the other way", Marsh.traveller(marsh, 1), "8,0 walking steps 1 target 0 passed 1 distrusts");
        marsh.tick(7);
        check.same("T4 the successor was passed: no target", Marsh.traveller(marsh, 0), "8,0 walking steps 8 target -1 passed 0 1 distrusts");
        check.same("T4 the same the other way", Marsh.traveller(marsh, 1), "1,0 walking steps 8 target -1 passed 0 1 distrusts");
        FalseLightMarsh warned = Marsh.of("marsh 5 2 clear 1;row fffff;row fffff;light 4 0 0 false;light 3 0 0 true next 0;"
                + "traveller 4 0;traveller 3 0;");
        warned.tick(1);
        check.same("T4 the successor is distrusted: no target", Marsh.traveller(warned, 1), "3,0 walking steps 0 target -1 passed 1 distrusts 0");
    }

    private static void sinksAndWarns() {
        FalseLightMarsh marsh = Marsh.of("marsh 7 3 clear 3;row fffffff;row fffffff;row fffffff;fog 1 1;light 0 0 9 false;light 6 2 0 true;"
                + "traveller 3 0;traveller 2 0;traveller 1 0;traveller 1 1;traveller 0 1;traveller 1 2;");
        marsh.setTarget(0, 0);
        marsh.setTarget(1, 1);
        marsh.setTarget(2, 0);
        marsh.setTarget(3, 0);
        marsh.tick(1);
        check.same("T4 it came to distance 2 before: it sees, and gives the target up", Marsh.traveller(marsh, 0), "2,0 walking steps 1 target -1 passed distrusts 0");
        check.same("T4 it went to distance 3 before: the brightness does not help", Marsh.traveller(marsh, 1), "3,0 walking steps 1 target 1 passed distrusts");
        check.same("T4 it sank, neither passing nor distrusting", Marsh.traveller(marsh, 2), "0,0 sunk steps 1 target -1 passed distrusts");
        check.same("T4 it was near, and acted after that without a light in sight", Marsh.traveller(marsh, 3), "1,1 walking steps 0 target -1 passed distrusts 0");
        check.same("T4 one more", Marsh.traveller(marsh, 4), "0,1 walking steps 0 target -1 passed distrusts 0");
        check.same("T4 at distance 3 when it sank, and then on its way", Marsh.traveller(marsh, 5), "1,1 walking steps 1 target 0 passed distrusts");
        marsh.tick(3);
        check.same("T4 it sinks later", Marsh.traveller(marsh, 5), "0,0 sunk steps 3 target -1 passed distrusts");
        marsh.setTarget(4, 0);
        marsh.tick(1);
        check.same("T4 a target that is distrusted is gone to all the same", Marsh.traveller(marsh, 4), "0,0 sunk steps 1 target -1 passed distrusts 0");
    }

    private static void distrustsManyLights() {
        FalseLightMarsh marsh = Marsh.of("marsh 5 2 clear 9;row fffff;row fffff;light 0 0 0 false;light 4 0 0 false;light 0 1 0 true;"
                + "traveller 0 0;traveller 4 0;traveller 2 0;");
        marsh.tick(1);
        check.same("T4 both lights", Marsh.traveller(marsh, 2), "2,1 walking steps 1 target 2 passed distrusts 0 1");
        marsh.undo();
        check.same("T4 neither", Marsh.traveller(marsh, 2), "2,0 walking steps 0 target -1 passed distrusts");
        check.no("P61 nobody is warned any more", marsh.distrusts(2, 0) || marsh.distrusts(2, 1));
    }

    private static void looksForTheWayAnewAfterChanges() {
        FalseLightMarsh marsh = Marsh.of("marsh 6 3 clear 20;row fwfffh;row fwffff;row ffffff;light 5 0 0 true;traveller 0 0;");
        marsh.tick(1);
        check.same("T4 round the water", Marsh.traveller(marsh, 0), "0,1 walking steps 1 target 0 passed distrusts");
        check.same("P47 the long way", marsh.ticksUntilDone(0), 8);
        marsh.layPlank(1, 1, 5);
        check.same("P47 over the plank", marsh.ticksUntilDone(0), 6);
        marsh.tick(1);
        check.same("T4 over the plank", Marsh.traveller(marsh, 0), "1,1 walking steps 2 target 0 passed distrusts");
        marsh.undo();
        marsh.undo();
        marsh.tick(1);
        check.same("T4 round the water again", Marsh.traveller(marsh, 0), "0,2 walking steps 2 target 0 passed distrusts");
        Marsh.append(marsh, "marsh 6 3 clear 20;row fffffh;row ffffff;row ffffff;light 0 2 0 true;traveller 0 0;");
        marsh.load();
        marsh.tick(1);
        check.same("T4 to the light of another text", Marsh.traveller(marsh, 0), "0,1 walking steps 1 target 0 passed distrusts");
        check.element("P47 it never comes to a hut", () -> marsh.ticksUntilDone(0));
        Marsh.append(marsh, "marsh 6 3 clear 20;row fffffh;row ffffff;row ffffff;light 5 0 0 true;traveller 4 0;");
        marsh.load();
        check.same("P47 to the hut's light of another text", marsh.ticksUntilDone(0), 1);
    }

    private static void actsInTheOrderOfNumbers() {
        FalseLightMarsh marsh = Marsh.of("marsh 5 2 clear 20;row fpfff;row wwwww;light 4 0 0 true;light 0 0 0 false;traveller 1 0;traveller 2 0;traveller 1 0;");
        marsh.layPlank(1, 0, 1);
        marsh.setTarget(0, 0);
        marsh.setTarget(1, 1);
        marsh.setTarget(2, 1);
        marsh.tick(1);
        check.same("T4 the plank broke before the second acted", Marsh.traveller(marsh, 1), "2,0 walking steps 0 target -1 passed 1 distrusts 1");
        check.same("T4 the third sank after that", Marsh.traveller(marsh, 2), "0,0 sunk steps 1 target -1 passed distrusts");
        check.same("T4 the first has acted before, and is warned", Marsh.traveller(marsh, 0), "2,0 walking steps 1 target 0 passed distrusts 1");
    }
}
