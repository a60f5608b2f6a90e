/** The sentences of promises 29 to 51 that name a boundary case, each with a test of its own. */
final class BoundariesOfTravellers {

    // On the winding way, these lights lead from its steps 1 over 76, 0, 75 and 51 or 50 to its end, step 77.
    private static final String LEAD_BACK = "light 1 10 0 true next 1;light 0 0 0 true next 2;light 0 10 0 true next 3;light 1 0 0 true next 4;";
    private static final String BY_51 = "light 0 7 0 true next 0;" + LEAD_BACK;
    private static final String BY_50 = "light 0 6 0 true next 0;" + LEAD_BACK.replace("light 1 0 0", "light 2 0 0");
    private final Check check;

    BoundariesOfTravellers(Check check) {
        this.check = check;
    }

    void run() {
        countsTravellers();
        tellsCellsAtTheEdges();
        tellsOneStateOfThree();
        countsSteps();
        refusesTravellers();
        refusesToTellNoTarget();
        remembersEachLightByItself();
        seesInAnyState();
        refusesToTellNoNearestLight();
        countsStates();
        sharesAndMeans();
        sharesAndMeansWithoutTravellers();
        tellsTicksFromOneTo300();
        refusesThoseWhoDoNotWalk();
        refusesThoseWhoWalkOn();
        arrivesAfterAtMost300();
        countsArrivalsFromNowTo300();
        countsThoseSunkFromNowTo300();
        findsTheLowestOfTheBest();
        looks300TicksAheadForTheBest();
    }

    /** A traveller who needs 277 ticks or more to the end of the winding way, and has the first light on it as the target. */
    private static FalseLightMarsh walker(int ticks, char last, boolean isTrue) {
        // 1 + 75 + 76 + 75 + 24 + 26 steps from step 2 by 51, and 1 + 74 + 76 + 75 + 25 + 27 from step 3 by 50.
        boolean by51 = ticks % 2 == 1;
        int start = by51 ? 2 : 3;
        FalseLightMarsh marsh = Marsh.of(Marsh.winding(0, last) + "light 0 11 0 " + isTrue + ";" + (by51 ? BY_51 : BY_50) + "traveller " + start + " 0;");
        marsh.setTarget(0, 5);
        int there = (ticks - (by51 ? 277 : 278)) / 2;
        if (there > 0) {
            sendForwardFirst(marsh, start + there);
        }
        return marsh;
    }

    // The way leads to the right in row 0 up to step 11, down at step 12, and to the left in row 2 from step 13 on.
    private static void sendForwardFirst(FalseLightMarsh marsh, int step) {
        int column = Math.min(11, step < 12 ? step : 24 - step);
        int light = marsh.addLight(column, step < 12 ? 0 : Math.min(2, step - 11), 0, true);
        marsh.setSuccessor(light, 5);
        marsh.setTarget(0, light);
    }

    private void countsTravellers() {
        check.about("P29", "Returns the number of travellers.");
        check.same("none", new FalseLightMarsh().travellerCount(), 0);
        FalseLightMarsh six = Marsh.of(Marsh.field(2, 2, 0) + "traveller 0 0;".repeat(6));
        check.same("all", six.travellerCount(), 6);
        Marsh.append(six, Marsh.field(2, 2, 0));
        six.load();
        check.same("none of an earlier text", six.travellerCount(), 0);
    }

    private void tellsCellsAtTheEdges() {
        FalseLightMarsh marsh = Marsh.of(Marsh.field(12, 12, 0) + "traveller 0 11;traveller 11 0;");
        check.about("P30", "Returns the column of its cell.");
        check.same("the first", marsh.travellerColumn(0), 0);
        check.same("the last", marsh.travellerColumn(1), 11);
        check.about("P31", "Returns the row of its cell.");
        check.same("the last", marsh.travellerRow(0), 11);
        check.same("the first", marsh.travellerRow(1), 0);
    }

    private void tellsOneStateOfThree() {
        FalseLightMarsh marsh = Marsh.of("marsh 4 2 clear 0;row ffhf;row ffff;light 0 0 0 false;light 2 0 0 true;traveller 0 0;traveller 3 0;traveller 1 1;");
        marsh.setTarget(1, 1);
        marsh.tick(1);
        check.about("P32", "Returns whether the traveller is walking.");
        check.yes("walking", marsh.isWalking(2));
        check.no("arrived or sunk", marsh.isWalking(0) || marsh.isWalking(1));
        check.about("P33", "Returns whether the traveller has arrived.");
        check.yes("arrived", marsh.hasArrived(1));
        check.no("sunk or walking", marsh.hasArrived(0) || marsh.hasArrived(2));
        check.about("P34", "Returns whether the traveller has sunk.");
        check.yes("sunk", marsh.hasSunk(0));
        check.no("arrived or walking", marsh.hasSunk(1) || marsh.hasSunk(2));
    }

    private void countsSteps() {
        check.about("P35", "Returns the number of steps that the traveller has moved.");
        FalseLightMarsh marsh = walker(300, 'h', true);
        check.same("none at first", marsh.stepsTaken(0), 0);
        marsh.tick(100);
        check.same("100", marsh.stepsTaken(0), 100);
        marsh.tick(100);
        marsh.tick(99);
        check.same("299, walking", marsh.stepsTaken(0) * 10 + marsh.walkingCount(), 2991);
        marsh.tick(1);
        check.same("300, arrived", marsh.stepsTaken(0) * 10 + marsh.arrivedCount(), 3001);
        marsh.tick(100);
        check.same("no more", marsh.stepsTaken(0), 300);
        FalseLightMarsh still = Marsh.of(Marsh.field(2, 2, 9) + "light 0 0 0 true;traveller 0 0;");
        still.tick(10);
        check.same("to pass a light without moving is no step", still.stepsTaken(0), 0);
    }

    private void refusesTravellers() {
        String refusal = "Throws `IndexOutOfBoundsException` if there is no such traveller";
        refusesTravellers("P30", refusal, FalseLightMarsh::travellerColumn);
        refusesTravellers("P31", refusal, FalseLightMarsh::travellerRow);
        refusesTravellers("P32", refusal, FalseLightMarsh::isWalking);
        refusesTravellers("P33", refusal, FalseLightMarsh::hasArrived);
        refusesTravellers("P34", refusal, FalseLightMarsh::hasSunk);
        refusesTravellers("P35", refusal, FalseLightMarsh::stepsTaken);
        refusesTravellers("P36", refusal, FalseLightMarsh::hasTarget);
        refusesTravellers("P37", refusal, FalseLightMarsh::target);
        refusesTravellers("P41", refusal, FalseLightMarsh::nearestLight);
        refusesTravellers("P47", refusal, FalseLightMarsh::ticksUntilDone);
        refusesTravellers("P48", refusal, FalseLightMarsh::willArrive);
        String either = "Throws `IndexOutOfBoundsException` if there is no such traveller or light";
        refusesTravellers("P38", either, (marsh, traveller) -> marsh.hasPassed(traveller, 0));
        refusesTravellers("P39", either, (marsh, traveller) -> marsh.distrusts(traveller, 0));
        refusesTravellers("P40", either, (marsh, traveller) -> marsh.sees(traveller, 0));
        refusesTravellers("P60", either, (marsh, traveller) -> marsh.setTarget(traveller, 0));
    }

    private void refusesTravellers(String promise, String refusal, BoundariesOfMarsh.OnNumber call) {
        check.about(promise, refusal);
        String text = Marsh.field(4, 2, 0) + "light 0 0 0 true;";
        for (int count : new int[] {0, 1, 4, 6}) {
            // The travellers that there were before are no travellers any more.
            FalseLightMarsh marsh = Marsh.of(text + "traveller 0 1;".repeat(6));
            Marsh.append(marsh, text + "traveller 0 1;".repeat(count));
            marsh.load();
            check.index("the number " + count + " of " + count, () -> call.ask(marsh, count));
            for (int number : BoundariesOfMarsh.ODD_NUMBERS) {
                check.index("the number " + number + " of " + count, () -> call.ask(marsh, number));
            }
            if (count > 0) {
                check.notIndex("the last of " + count, () -> call.ask(marsh, count - 1));
                check.notIndex("the first of " + count, () -> call.ask(marsh, 0));
            }
        }
    }

    private void refusesToTellNoTarget() {
        FalseLightMarsh marsh = Marsh.of("marsh 4 2 clear 0;row ffhf;row ffff;light 0 0 0 true;light 3 0 0 false;light 2 0 0 true;light 1 1 0 false;"
                + "traveller 0 0;traveller 3 1;traveller 3 0;traveller 0 1;");
        marsh.setTarget(1, 2);
        marsh.setTarget(3, 1);
        check.about("P36", "Returns whether the traveller has a target.");
        check.no("not at first", marsh.hasTarget(0));
        check.yes("light 1", marsh.hasTarget(3));
        marsh.setTarget(0, 0);
        check.yes("light 0 is one", marsh.hasTarget(0));
        marsh.tick(1);
        check.no("not one who has passed it", marsh.hasTarget(0));
        check.no("not one who has sunk", marsh.hasTarget(2));
        marsh.tick(1);
        check.no("not one who has arrived", marsh.hasTarget(1));
        check.about("P37", "Throws `NoSuchElementException` if the traveller has no target");
        check.element("it passed the target", () -> marsh.target(0));
        check.element("it has arrived", () -> marsh.target(1));
        check.element("it has sunk", () -> marsh.target(2));
        check.same("light 1", marsh.target(3), 1);
        check.element("it is new", () -> Marsh.of(Marsh.field(2, 2, 9) + "light 0 0 0 true;traveller 0 0;").target(0));
        check.about("P37", "Returns the target.");
        marsh.setTarget(0, 0);
        check.same("light 0", marsh.target(0), 0);
        marsh.setTarget(0, 3);
        check.same("the last light", marsh.target(0), 3);
    }

    private void remembersEachLightByItself() {
        String eight = "light 0 0 0 false;light 1 0 0 true;light 2 0 0 true;light 3 0 0 true;light 4 0 0 true;light 5 0 0 true;light 6 0 0 true;light 7 0 0 false;";
        FalseLightMarsh marsh = Marsh.of(Marsh.field(8, 2, 20) + eight + "traveller 0 0;traveller 7 0;traveller 3 0;traveller 6 1;");
        marsh.setTarget(2, 6);
        marsh.tick(4);
        check.about("P38", "Returns whether the traveller has passed the light.");
        for (int light = 0; light < 8; light++) {
            check.same("light " + light, marsh.hasPassed(2, light) ? 1 : 0, light == 6 || light == 5 ? 1 : 0);
            check.no("the sunk one has passed none", marsh.hasPassed(0, light));
        }
        check.about("P39", "Returns whether the traveller distrusts the light.");
        for (int light = 0; light < 8; light++) {
            check.same("light " + light, marsh.distrusts(2, light) ? 1 : 0, light == 0 || light == 7 ? 1 : 0);
            check.no("the first who sank distrusts none", marsh.distrusts(0, light));
            check.same("the second one only that of the first", marsh.distrusts(1, light) ? 1 : 0, light == 0 ? 1 : 0);
        }
    }

    private void seesInAnyState() {
        check.about("P40", "Returns whether the traveller sees the light, whatever the state of the traveller is.");
        FalseLightMarsh marsh = Marsh.of("marsh 6 2 clear 1;row ffhfff;row ffffff;light 0 0 0 false;light 2 0 0 true;light 5 0 2 true;traveller 0 0;traveller 3 0;traveller 5 1;");
        marsh.setTarget(1, 1);
        marsh.tick(1);
        check.same("sunk, arrived, walking", marsh.sunkCount() * 100 + marsh.arrivedCount() * 10 + marsh.walkingCount(), 111);
        check.yes("the sunk one sees what sank it", marsh.sees(0, 0));
        check.no("the sunk one, distance 2, sight 1", marsh.sees(0, 1));
        check.yes("the arrived one, distance 0", marsh.sees(1, 1));
        check.yes("the arrived one, distance 3, sight 1, brightness 2", marsh.sees(1, 2));
        check.no("the arrived one, distance 2, sight 1", marsh.sees(1, 0));
        check.yes("the walking one, what it passed", marsh.sees(2, 2));
        marsh.setClearness(2);
        check.yes("the sunk one, distance 2, sight 2", marsh.sees(0, 1));
        check.yes("the arrived one, distance 2, sight 2", marsh.sees(1, 0));
    }

    private void refusesToTellNoNearestLight() {
        check.about("P41", "Throws `NoSuchElementException` if no light is acceptable");
        check.element("no light", () -> Marsh.of(Marsh.field(2, 2, 20) + "traveller 0 0;").nearestLight(0));
        FalseLightMarsh marsh = Marsh.of(Marsh.field(5, 2, 0) + "light 0 0 0 true;light 3 0 2 false;light 4 0 0 true;traveller 0 0;traveller 0 1;traveller 3 0;traveller 3 0;");
        check.element("none is seen, at distance 4 with sight 0 and brightness 2", () -> marsh.nearestLight(1));
        marsh.tick(1);
        check.element("the one seen was passed", () -> marsh.nearestLight(0));
        check.element("the one seen is distrusted", () -> marsh.nearestLight(3));
        check.about("P41", "Returns the acceptable light at the smallest distance, the lowest number of several, whatever the state and the target of the traveller are.");
        check.same("a sunk one", marsh.nearestLight(2), 1);
        marsh.setClearness(1);
        check.same("at distance 1", marsh.nearestLight(3), 2);
        marsh.setTarget(3, 0);
        check.same("whatever the target", marsh.nearestLight(3), 2);
        FalseLightMarsh hut = Marsh.of("marsh 3 3 clear 9;row fff;row fhf;row fff;light 1 2 0 true;light 1 0 0 true;light 1 1 0 true;light 0 1 0 true;traveller 2 1;");
        check.same("the nearest", hut.nearestLight(0), 2);
        hut.tick(1);
        check.yes("arrived", hut.hasArrived(0));
        check.same("an arrived one: the light on its own cell, which did not count as passed", hut.nearestLight(0), 2);
        FalseLightMarsh even = Marsh.of(Marsh.field(3, 3, 9) + "light 0 0 0 true;light 1 2 0 true;light 1 0 0 true;light 0 1 0 true;light 2 1 0 true;traveller 1 1;");
        check.same("the lowest of four at distance 1", even.nearestLight(0), 1);
    }

    private void countsStates() {
        FalseLightMarsh marsh = Marsh.of("marsh 3 2 clear 0;row fhf;row fff;light 0 0 0 false;light 1 0 0 true;" + "traveller 0 1;".repeat(6));
        check.about("P42", "Returns the number of travellers who are walking.");
        check.same("all", marsh.walkingCount(), 6);
        check.same("of none", new FalseLightMarsh().walkingCount(), 0);
        check.about("P43", "Returns the number of travellers who have arrived.");
        check.same("none", marsh.arrivedCount(), 0);
        check.same("of none", new FalseLightMarsh().arrivedCount(), 0);
        for (int traveller = 0; traveller < 6; traveller++) {
            marsh.setTarget(traveller, 1);
        }
        marsh.tick(2);
        check.same("all", marsh.arrivedCount(), 6);
        check.same("P42 none", marsh.walkingCount(), 0);
        check.about("P44", "Returns the number of travellers who have sunk.");
        check.same("none", marsh.sunkCount(), 0);
        check.same("of none", new FalseLightMarsh().sunkCount(), 0);
        FalseLightMarsh sinking = Marsh.of(Marsh.field(2, 2, 0) + "light 0 0 0 false;" + "traveller 0 0;".repeat(6));
        for (int traveller = 0; traveller < 6; traveller++) {
            sinking.setTarget(traveller, 0);
            sinking.tick(1);
            check.same("one more", sinking.sunkCount(), traveller + 1);
        }
        check.same("P42 none", sinking.walkingCount(), 0);
    }

    private void sharesAndMeans() {
        check.about("P45", "Returns the number of travellers who have arrived divided by the number of all travellers, both converted to float");
        for (int all = 1; all <= 6; all++) {
            FalseLightMarsh marsh = Marsh.of("marsh 3 2 clear 0;row fhf;row fff;light 1 0 0 true;" + "traveller 0 0;".repeat(all));
            check.same("0 of " + all, marsh.arrivedShare(), 0.0f);
            for (int arrived = 1; arrived <= all; arrived++) {
                marsh.setTarget(arrived - 1, 0);
                marsh.tick(1);
                check.same(arrived + " of " + all, marsh.arrivedShare(), (float) arrived / (float) all);
            }
            check.same("all of " + all, marsh.arrivedShare(), 1.0f);
        }
        check.about("P46", "Returns the number of steps of all travellers divided by the number of travellers, both converted to double");
        for (int all = 1; all <= 6; all++) {
            FalseLightMarsh marsh = Marsh.of(Marsh.field(9, 2, 0) + "light 8 0 0 true;" + "traveller 0 0;".repeat(all));
            check.same("0 of " + all, marsh.meanSteps(), 0.0);
            marsh.setTarget(0, 0);
            for (int steps = 1; steps <= 8; steps++) {
                marsh.tick(1);
                check.same(steps + " of " + all, marsh.meanSteps(), (double) steps / (double) all);
            }
        }
    }

    private void sharesAndMeansWithoutTravellers() {
        check.about("P45", "0 without travellers");
        check.same("a new object", new FalseLightMarsh().arrivedShare(), 0.0f);
        check.about("P46", "0 without travellers");
        check.same("a new object", new FalseLightMarsh().meanSteps(), 0.0);
        FalseLightMarsh marsh = Marsh.of("marsh 2 2 clear 9;row fh;row ff;light 1 0 0 true;traveller 0 0;");
        marsh.tick(1);
        check.same("P45 with one", marsh.arrivedShare(), 1.0f);
        check.same("with one", marsh.meanSteps(), 1.0);
        Marsh.append(marsh, Marsh.field(2, 2, 0));
        marsh.load();
        check.same("P45 without the earlier one", marsh.arrivedShare(), 0.0f);
        check.same("without the earlier one", marsh.meanSteps(), 0.0);
    }

    private void tellsTicksFromOneTo300() {
        check.about("P47", "Returns the number of ticks, 1 to 300, after which the traveller is no longer walking.");
        FalseLightMarsh near = Marsh.of("marsh 3 2 clear 9;row fhf;row fff;light 1 0 0 true;light 2 0 0 false;traveller 0 0;traveller 2 0;");
        check.same("1: to arrive", near.ticksUntilDone(0), 1);
        check.same("1: to sink", near.ticksUntilDone(1), 1);
        for (int ticks = 277; ticks <= 300; ticks++) {
            check.same(ticks + ": to arrive", walker(ticks, 'h', true).ticksUntilDone(0), ticks);
        }
        check.same("300: to sink", walker(300, 'f', false).ticksUntilDone(0), 300);
        FalseLightMarsh late = walker(300, 'h', true);
        late.tick(100);
        check.same("200 are left", late.ticksUntilDone(0), 200);
        late.tick(100);
        late.tick(99);
        check.same("1 is left", late.ticksUntilDone(0), 1);
    }

    private void refusesThoseWhoDoNotWalk() {
        check.about("P47", "Throws `IllegalStateException` if the traveller is not walking now");
        FalseLightMarsh marsh = Marsh.of("marsh 3 2 clear 9;row fhf;row fff;light 1 0 0 true;light 2 0 0 false;traveller 0 0;traveller 2 0;");
        marsh.tick(1);
        check.state("it has arrived", () -> marsh.ticksUntilDone(0));
        check.state("it has sunk", () -> marsh.ticksUntilDone(1));
        marsh.undo();
        check.same("it walks again", marsh.ticksUntilDone(0), 1);
    }

    private void refusesThoseWhoWalkOn() {
        check.about("P47", "Throws `NoSuchElementException` if the traveller is still walking after 300 ticks");
        check.element("301 ticks to arrive", () -> walker(301, 'h', true).ticksUntilDone(0));
        check.element("301 ticks to sink", () -> walker(301, 'f', false).ticksUntilDone(0));
        FalseLightMarsh marsh = walker(301, 'h', true);
        marsh.tick(1);
        check.same("300 of them are left", marsh.ticksUntilDone(0), 300);
        check.element("for ever", () -> Marsh.of(Marsh.field(2, 2, 9) + "traveller 0 0;").ticksUntilDone(0));
        check.element("for ever, behind the last light", () -> walker(300, 'f', true).ticksUntilDone(0));
    }

    private void arrivesAfterAtMost300() {
        check.about("P48", "Returns whether the traveller has arrived after at most 300 ticks.");
        check.yes("300", walker(300, 'h', true).willArrive(0));
        check.no("301", walker(301, 'h', true).willArrive(0));
        check.no("300 to sink", walker(300, 'f', false).willArrive(0));
        FalseLightMarsh marsh = Marsh.of("marsh 3 2 clear 9;row fhf;row fff;light 1 0 0 true;light 2 0 0 false;traveller 0 0;traveller 2 0;");
        check.yes("1", marsh.willArrive(0));
        marsh.tick(1);
        check.yes("0: it has arrived", marsh.willArrive(0));
        check.no("it has sunk", marsh.willArrive(1));
    }

    private void countsArrivalsFromNowTo300() {
        check.about("P49", "Throws `IllegalArgumentException` if ticks is out of range");
        FalseLightMarsh marsh = walker(300, 'h', true);
        for (int ticks : new int[] {-1, 301, -300, 556, Integer.MIN_VALUE, Integer.MAX_VALUE}) {
            check.argument("ticks " + ticks, () -> marsh.arrivedAfter(ticks));
        }
        check.about("P49", "Returns the number of travellers who will have arrived after so many ticks.");
        check.same("0", marsh.arrivedAfter(0), 0);
        check.same("299", marsh.arrivedAfter(299), 0);
        check.same("300", marsh.arrivedAfter(300), 1);
        check.same("300 of 301", walker(301, 'h', true).arrivedAfter(300), 0);
        marsh.tick(100);
        check.same("200 of 200", marsh.arrivedAfter(200), 1);
        check.same("199 of 200", marsh.arrivedAfter(199), 0);
        marsh.tick(100);
        marsh.tick(100);
        check.same("0 of 0", marsh.arrivedAfter(0), 1);
    }

    private void countsThoseSunkFromNowTo300() {
        check.about("P50", "Throws `IllegalArgumentException` if ticks is out of range");
        FalseLightMarsh marsh = walker(300, 'f', false);
        for (int ticks : new int[] {-1, 301, -300, 556, Integer.MIN_VALUE, Integer.MAX_VALUE}) {
            check.argument("ticks " + ticks, () -> marsh.sunkAfter(ticks));
        }
        check.about("P50", "Returns the number of travellers who will have sunk after so many ticks.");
        check.same("0", marsh.sunkAfter(0), 0);
        check.same("299", marsh.sunkAfter(299), 0);
        check.same("300", marsh.sunkAfter(300), 1);
        check.same("300 of 301", walker(301, 'f', false).sunkAfter(300), 0);
        marsh.tick(100);
        marsh.tick(100);
        marsh.tick(100);
        check.same("0 of 0", marsh.sunkAfter(0), 1);
    }

    private void findsTheLowestOfTheBest() {
        check.about("P51", "Returns the lowest clearness, 0 to 20, with which the most travellers will have arrived after 300 ticks.");
        check.same("the same with any: no travellers", new FalseLightMarsh().bestClearness(), 0);
        String way = "marsh 12 12 clear 3;row fffffffffffh;" + "row ffffffffffff;".repeat(11);
        for (int distance = 1; distance <= 22; distance++) {
            int x = 11 - Math.min(distance, 11);
            int y = distance - Math.min(distance, 11);
            FalseLightMarsh marsh = Marsh.of(way + "light 11 0 0 true;traveller " + x + " " + y + ";");
            check.same("just enough to see it at distance " + distance, marsh.bestClearness(), distance <= 20 ? distance : 0);
            check.same("P17 the clearness stays", marsh.clearness(), 3);
        }
        FalseLightMarsh gone = Marsh.of("marsh 3 2 clear 9;row fhf;row fff;light 1 0 0 true;traveller 0 0;");
        gone.tick(1);
        check.same("those who have arrived before count with any", gone.bestClearness(), 0);
        FalseLightMarsh worse = Marsh.of("marsh 12 2 clear 20;row hffffffffffh;row ffffffffffff;light 0 0 0 true;light 6 0 0 false;traveller 4 0;traveller 3 1;");
        check.same("with more, they see the false one first", worse.bestClearness(), 4);
    }

    // In fog at all hours but hour 0, a clearness of 1 to 9 shows the first light in tick 24, and of 10 or more in tick 1.
    private void looks300TicksAheadForTheBest() {
        check.about("P51", "will have arrived after 300 ticks");
        String fogs = Marsh.fogs(1, 23, 9);
        FalseLightMarsh in300 = Marsh.of(Marsh.winding(0, 'h') + fogs + "light 0 11 0 true;" + BY_51 + "traveller 2 0;");
        check.same("after 300 ticks with 1, after 277 with 10", in300.bestClearness(), 1);
        in300.setClearness(1);
        check.same("P47 300 ticks", in300.ticksUntilDone(0), 300);
        FalseLightMarsh in301 = Marsh.of(Marsh.winding(0, 'h') + fogs + "light 0 11 0 true;" + BY_50 + "traveller 3 0;");
        check.same("after 301 ticks with 1, after 278 with 10", in301.bestClearness(), 10);
    }
}
