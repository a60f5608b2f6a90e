/** Promises 29 to 46, 54 and 60. */
final class TravellerTest {

    private static final String PLAIN = "marsh 5 3 clear 2;row fffff;row fwphf;row fffff;";
    private static final Check check = new Check();

    public static void main(String[] args) {
        addsTravellers();
        refusesTravellers();
        refusesNumbersOfNoTraveller();
        refusesNumbersOfNoLight();
        tellsStates();
        tellsWhatIsSeen();
        findsTheNearestLight();
        setsTargets();
        refusesTargets();
        answersWithoutAnyText();
        check.end();
    }

    private static void addsTravellers() {
        FalseLightMarsh marsh = Marsh.of(PLAIN + "light 4 2 1 true;");
        check.same("P29 none", marsh.travellerCount(), 0);
        check.same("P54 the first number", marsh.addTraveller(4, 0), 0);
        check.same("P54 the second number, on the same cell", marsh.addTraveller(4, 0), 1);
        check.same("P54 on a plank", marsh.addTraveller(2, 1), 2);
        check.same("P54 on a light", marsh.addTraveller(4, 2), 3);
        check.same("P29 four", marsh.travellerCount(), 4);
        check.same("P30 column", marsh.travellerColumn(2), 2);
        check.same("P31 row", marsh.travellerRow(2), 1);
        check.same("P54 all about it", Marsh.traveller(marsh, 3), "4,2 walking steps 0 target -1 passed distrusts");
        marsh.tick(1);
        check.yes("P38 it passes the light", marsh.hasPassed(3, 0));
        marsh.undo();
        check.same("P54 it is a change", marsh.undo(), 3);
        check.same("P54 undone", marsh.travellerCount(), 3);
        check.same("P54 the number again", marsh.addTraveller(0, 0), 3);
        check.same("P54 a new traveller there", Marsh.traveller(marsh, 3), "0,0 walking steps 0 target -1 passed distrusts");
    }

    private static void refusesTravellers() {
        FalseLightMarsh marsh = Marsh.of(PLAIN);
        check.index("P54 column 5", () -> marsh.addTraveller(5, 0));
        check.index("P54 row 3", () -> marsh.addTraveller(0, 3));
        check.index("P54 column -1", () -> marsh.addTraveller(-1, 1));
        check.index("P54 row -1", () -> marsh.addTraveller(1, -1));
        check.state("P54 water", () -> marsh.addTraveller(1, 1));
        check.state("P54 a hut", () -> marsh.addTraveller(3, 1));
        check.same("P54 nothing changed", marsh.travellerCount(), 0);
        check.state("P54 no change to undo", marsh::undo);
        for (int n = 0; n < 6; n++) {
            check.same("P54 number", marsh.addTraveller(0, 0), n);
        }
        check.state("P54 a 7th traveller", () -> marsh.addTraveller(0, 0));
        check.index("P54 the cell comes before the 7th", () -> marsh.addTraveller(12, 0));
        check.same("P29 six", marsh.travellerCount(), 6);
    }

    private static void refusesNumbersOfNoTraveller() {
        FalseLightMarsh two = Marsh.of(PLAIN + "light 4 2 1 true;traveller 0 0;traveller 1 0;");
        FalseLightMarsh none = new FalseLightMarsh();
        for (int traveller : new int[] {-1, 2, 6, Integer.MIN_VALUE, Integer.MAX_VALUE}) {
            refusesNumber(two, traveller);
            refusesNumber(none, traveller);
        }
        refusesNumber(none, 0);
    }

    private static void refusesNumber(FalseLightMarsh marsh, int traveller) {
        check.index("P30 no traveller " + traveller, () -> marsh.travellerColumn(traveller));
        check.index("P31 no traveller " + traveller, () -> marsh.travellerRow(traveller));
        check.index("P32 no traveller " + traveller, () -> marsh.isWalking(traveller));
        check.index("P33 no traveller " + traveller, () -> marsh.hasArrived(traveller));
        check.index("P34 no traveller " + traveller, () -> marsh.hasSunk(traveller));
        check.index("P35 no traveller " + traveller, () -> marsh.stepsTaken(traveller));
        check.index("P36 no traveller " + traveller, () -> marsh.hasTarget(traveller));
        check.index("P37 no traveller " + traveller, () -> marsh.target(traveller));
        check.index("P38 no traveller " + traveller, () -> marsh.hasPassed(traveller, 0));
        check.index("P39 no traveller " + traveller, () -> marsh.distrusts(traveller, 0));
        check.index("P40 no traveller " + traveller, () -> marsh.sees(traveller, 0));
        check.index("P41 no traveller " + traveller, () -> marsh.nearestLight(traveller));
        check.index("P47 no traveller " + traveller, () -> marsh.ticksUntilDone(traveller));
        check.index("P48 no traveller " + traveller, () -> marsh.willArrive(traveller));
        check.index("P60 no traveller " + traveller, () -> marsh.setTarget(traveller, 0));
    }

    private static void refusesNumbersOfNoLight() {
        FalseLightMarsh marsh = Marsh.of(PLAIN + "light 4 2 1 true;traveller 0 0;traveller 4 1;");
        for (int light : new int[] {-1, 1, 8, 32, Integer.MIN_VALUE, Integer.MAX_VALUE}) {
            check.index("P38 no light " + light, () -> marsh.hasPassed(0, light));
            check.index("P39 no light " + light, () -> marsh.distrusts(0, light));
            check.index("P40 no light " + light, () -> marsh.sees(0, light));
            check.index("P60 no light " + light, () -> marsh.setTarget(0, light));
        }
    }

    private static void tellsStates() {
        FalseLightMarsh marsh = Marsh.of(PLAIN + "light 3 1 0 true;light 4 2 0 false;light 0 0 0 true;"
                + "traveller 3 0;traveller 3 2;traveller 0 2;");
        check.same("P42 three walk", marsh.walkingCount(), 3);
        check.same("P43 none arrived", marsh.arrivedCount(), 0);
        check.same("P44 none sunk", marsh.sunkCount(), 0);
        check.same("P45 none of three", marsh.arrivedShare(), 0.0f);
        check.same("P46 no steps", marsh.meanSteps(), 0.0);
        marsh.setTarget(1, 1);
        check.element("P37 no target", () -> marsh.target(0));
        check.no("P36 no target", marsh.hasTarget(0));
        marsh.tick(1);
        check.same("P33 arrived", Marsh.traveller(marsh, 0), "3,1 arrived steps 1 target -1 passed distrusts");
        check.same("P34 sunk", Marsh.traveller(marsh, 1), "4,2 sunk steps 1 target -1 passed distrusts");
        check.same("P32 walking", Marsh.traveller(marsh, 2), "0,1 walking steps 1 target 2 passed distrusts");
        check.same("P42 one walks", marsh.walkingCount(), 1);
        check.same("P43 one arrived", marsh.arrivedCount(), 1);
        check.same("P44 one sunk", marsh.sunkCount(), 1);
        check.same("P45 one of three, in floats", marsh.arrivedShare(), 1.0f / 3.0f);
        check.same("P46 a step each", marsh.meanSteps(), 1.0);
        check.yes("P36 a target", marsh.hasTarget(2));
        check.same("P37 the target", marsh.target(2), 2);
        marsh.tick(1);
        check.same("P35 two steps", marsh.stepsTaken(2), 2);
        check.same("P46 four steps of three", marsh.meanSteps(), 4.0 / 3.0);
        check.yes("P38 passed", marsh.hasPassed(2, 2));
        check.no("P38 not passed", marsh.hasPassed(2, 1));
        differsInNumbers();
        FalseLightMarsh empty = new FalseLightMarsh();
        check.same("P45 no travellers", empty.arrivedShare(), 0.0f);
        check.same("P46 no travellers", empty.meanSteps(), 0.0);
        check.same("P42 no travellers", empty.walkingCount() + empty.arrivedCount() + empty.sunkCount(), 0);
    }

    private static void differsInNumbers() {
        FalseLightMarsh marsh = Marsh.of("marsh 5 3 clear 0;row fffff;row fwphf;row fffff;light 4 2 0 false;light 3 1 1 true;"
                + "traveller 4 2;traveller 4 2;traveller 3 0;traveller 4 2;");
        marsh.tick(1);
        check.same("P44 only one has sunk", marsh.sunkCount(), 1);
        check.same("P42 two on the same cell were warned", marsh.walkingCount(), 2);
        marsh.setTarget(1, 0);
        marsh.tick(1);
        marsh.setTarget(3, 0);
        marsh.tick(1);
        check.same("P44 three have sunk", marsh.sunkCount(), 3);
        check.same("P43 one has arrived", marsh.arrivedCount(), 1);
        check.same("P42 none walks", marsh.walkingCount(), 0);
        check.same("P45 one of four", marsh.arrivedShare(), 0.25f);
        check.same("P46 one step of four", marsh.meanSteps(), 0.25);
    }

    private static void tellsWhatIsSeen() {
        FalseLightMarsh marsh = Marsh.of("marsh 6 6 clear 2;" + "row ffffff;".repeat(6)
                + "fog 0 1;fog 1 9;light 2 0 0 true;light 0 1 0 true;light 5 5 9 false;light 3 1 2 true;light 4 5 7 false;"
                + "traveller 0 0;traveller 5 0;");
        check.no("P40 distance 2, sight 1, brightness 0", marsh.sees(0, 0));
        check.yes("P40 distance 1, sight 1", marsh.sees(0, 1));
        check.yes("P40 distance 10, brightness 9", marsh.sees(0, 2));
        check.no("P40 distance 4, brightness 2", marsh.sees(0, 3));
        check.no("P40 distance 9, brightness 7", marsh.sees(0, 4));
        check.yes("P40 the other traveller, distance 3", marsh.sees(1, 3));
        marsh.setClearness(3);
        check.yes("P40 a greater clearness", marsh.sees(0, 0));
        marsh.setClearness(0);
        marsh.setTarget(0, 1);
        marsh.tick(1);
        check.same("P19 sight in the fog of hour 1", marsh.sight(), 0);
        check.same("P38 it moved and passed light 1", Marsh.traveller(marsh, 0), "0,1 walking steps 1 target -1 passed 1 distrusts");
        check.yes("P40 it sees what it passed", marsh.sees(0, 1));
    }

    private static void findsTheNearestLight() {
        FalseLightMarsh marsh = Marsh.of("marsh 6 6 clear 2;" + "row ffffff;".repeat(6)
                + "light 4 0 9 true;light 2 2 9 true;light 0 3 0 true;light 3 0 1 true;light 1 2 0 true;"
                + "traveller 0 0;traveller 5 5;traveller 3 0;");
        check.same("P41 the lowest number of two at distance 3", marsh.nearestLight(0), 3);
        check.same("P41 the lowest number of two at distance 6", marsh.nearestLight(1), 0);
        check.same("P41 on its own cell", marsh.nearestLight(2), 3);
        marsh.setTarget(2, 0);
        check.same("P41 whatever the target", marsh.nearestLight(2), 3);
        marsh.setClearness(0);
        check.same("P41 the nearest that is seen: light 0 and 1 at distance 4", marsh.nearestLight(0), 0);
        FalseLightMarsh dark = Marsh.of("marsh 6 2 clear 0;row ffffff;row hfffff;light 0 0 0 false;light 1 0 0 true;"
                + "light 5 1 3 false;traveller 2 0;traveller 1 0;traveller 5 0;traveller 3 1;");
        check.element("P41 none is seen", () -> dark.nearestLight(0));
        dark.tick(1);
        check.element("P41 the light was passed", () -> dark.nearestLight(1));
        check.same("P41 one goes down, the other lost sight", Marsh.traveller(dark, 2), "5,1 sunk steps 1 target -1 passed distrusts");
        check.same("P41 whatever the state is", dark.nearestLight(2), 2);
        FalseLightMarsh none = Marsh.of("marsh 2 2 clear 20;row ff;row ff;traveller 0 0;");
        check.element("P41 no light at all", () -> none.nearestLight(0));
    }

    private static void setsTargets() {
        FalseLightMarsh marsh = Marsh.of(PLAIN + "fog 0 9;fog 1 9;light 4 2 0 true;light 0 0 0 false;light 1 0 0 true;"
                + "traveller 0 0;traveller 1 0;");
        check.same("P60 the distance, of one that is not seen", marsh.setTarget(0, 0), 6);
        check.same("P60 the target", marsh.target(0), 0);
        check.same("P60 the distance to its own cell", marsh.setTarget(0, 1), 0);
        check.same("P60 the later target", marsh.target(0), 1);
        check.same("P60 it is a change", marsh.undo(), 1);
        check.same("P60 undone", marsh.target(0), 0);
        marsh.tick(1);
        check.yes("P38 light 2 was passed", marsh.hasPassed(1, 2));
        check.same("P60 a light that was passed", marsh.setTarget(1, 2), 0);
        check.same("P60 is the target", marsh.target(1), 2);
        check.yes("P60 and still counts as passed", marsh.hasPassed(1, 2));
    }

    /** An object that has read no text but its first one: all that is asked about was added. */
    private static void answersWithoutAnyText() {
        FalseLightMarsh marsh = new FalseLightMarsh();
        marsh.addTraveller(3, 1);
        marsh.addTraveller(0, 2);
        marsh.addLight(3, 0, 3, true);
        marsh.addLight(0, 1, 9, false);
        marsh.setClearness(1);
        check.yes("P40 distance 1, sight 1, brightness 3", marsh.sees(0, 0));
        check.no("P40 distance 5, sight 1, brightness 3", marsh.sees(1, 0));
        check.yes("P40 distance 3, sight 1, brightness 9", marsh.sees(0, 1));
        check.same("P41 the nearest of two", marsh.nearestLight(0), 0);
        check.same("P41 the nearest of one", marsh.nearestLight(1), 1);
        check.same("P52 one arrives", marsh.tick(1), 1);
        check.same("P45 one of two", marsh.arrivedShare(), 0.5f);
        check.same("P46 a step each", marsh.meanSteps(), 1.0);
        check.same("P44 the other has sunk", marsh.sunkCount(), 1);
        marsh.addTraveller(0, 0);
        check.same("P45 one of three", marsh.arrivedShare(), 1.0f / 3.0f);
        check.same("P46 two steps of three", marsh.meanSteps(), 2.0 / 3.0);
    }

    private static void refusesTargets() {
        FalseLightMarsh marsh = Marsh.of(PLAIN + "light 3 1 0 true;light 4 2 0 false;traveller 3 0;traveller 4 2;traveller 0 0;");
        marsh.tick(1);
        check.yes("P33 arrived", marsh.hasArrived(0));
        check.yes("P34 sunk", marsh.hasSunk(1));
        check.state("P60 arrived", () -> marsh.setTarget(0, 1));
        check.state("P60 sunk", () -> marsh.setTarget(1, 1));
        check.index("P60 the light comes before the state", () -> marsh.setTarget(0, 2));
        check.no("P60 no target", marsh.hasTarget(0) || marsh.hasTarget(1));
        check.same("P60 no change", marsh.undo(), 0);
    }
}
