/** Promises 47 to 51. */
final class FutureTest {

    private static final Check check = new Check();

    public static void main(String[] args) {
        tellsWhenOneIsDone();
        waitsForTheHourOfSight();
        waitsForAWholeDay();
        looksThreeHundredTicksAhead();
        tellsWhoWillArrive();
        countsAfterTicks();
        refusesTicks();
        findsTheBestClearness();
        changesNothing();
        goesBeyondTheLastTime();
        check.end();
    }

    private static FalseLightMarsh mixed() {
        FalseLightMarsh marsh = Marsh.of("marsh 7 2 clear 20;row fffffff;row ffffhff;light 4 1 0 true;light 0 0 0 false;"
                + "traveller 6 0;traveller 5 1;traveller 2 0;traveller 1 0;");
        marsh.setTarget(2, 1);
        marsh.setTarget(3, 1);
        return marsh;
    }

    private static void tellsWhenOneIsDone() {
        FalseLightMarsh marsh = mixed();
        check.same("P47 three steps to the hut", marsh.ticksUntilDone(0), 3);
        check.same("P47 one step", marsh.ticksUntilDone(1), 1);
        check.same("P47 warned on the way to the false light, and then to the hut", marsh.ticksUntilDone(2), 5);
        check.same("P47 to sink is to be done", marsh.ticksUntilDone(3), 1);
        marsh.tick(1);
        check.state("P47 arrived", () -> marsh.ticksUntilDone(1));
        check.state("P47 sunk", () -> marsh.ticksUntilDone(3));
        check.same("P47 one tick less", marsh.ticksUntilDone(0), 2);
        FalseLightMarsh idle = Marsh.of("marsh 2 2 clear 9;row ff;row ff;traveller 0 0;");
        check.element("P47 it walks for ever", () -> idle.ticksUntilDone(0));
    }

    private static void waitsForTheHourOfSight() {
        StringBuilder fogs = new StringBuilder();
        for (int hour = 0; hour < 24; hour++) {
            fogs.append("fog ").append(hour).append(hour == 12 ? " 0;" : " 9;");
        }
        FalseLightMarsh marsh = Marsh.of("marsh 3 2 clear 5;row fhf;row fff;" + fogs + "light 1 0 0 true;traveller 0 0;");
        check.same("P47 in the hour of sight", marsh.ticksUntilDone(0), 12);
        marsh.tick(11);
        check.same("P47 in the very next tick", marsh.ticksUntilDone(0), 1);
        check.same("P49 0 ticks", marsh.arrivedAfter(0), 0);
        check.same("P49 1 tick", marsh.arrivedAfter(1), 1);
    }

    // Hour 0 is the only one of sight: a day after the start, and a day after the first light was passed.
    private static void waitsForAWholeDay() {
        StringBuilder fogs = new StringBuilder();
        for (int hour = 1; hour < 24; hour++) {
            fogs.append("fog ").append(hour).append(" 9;");
        }
        String text = "marsh 3 2 clear 5;row fhf;row fff;" + fogs;
        FalseLightMarsh marsh = Marsh.of(text + "light 0 1 0 true;light 1 0 0 true;traveller 0 0;");
        check.same("P47 a day for each of two lights, and a step more", marsh.ticksUntilDone(0), 49);
        check.same("P49 not yet", marsh.arrivedAfter(48), 0);
        check.same("P49 then", marsh.arrivedAfter(49), 1);
        check.yes("P48 then", marsh.willArrive(0));
        check.same("P52 nobody arrives", marsh.tick(47), 0);
        check.same("P52 the first light was passed", Marsh.traveller(marsh, 0), "0,1 walking steps 1 target -1 passed 0 distrusts");
        check.same("P47 the hour of sight comes next", marsh.ticksUntilDone(0), 2);
        check.same("P52 one arrives", marsh.tick(100), 1);
        check.same("P16 all ticks passed", marsh.time(), 147);
        FalseLightMarsh idle = Marsh.of(text + "traveller 0 0;");
        check.same("P52 nobody does anything", idle.tick(100), 0);
        check.same("P16 all ticks passed", idle.time(), 100);
        check.same("P19 the sight at hour 4", idle.sight(), 0);
        idle.tick(20);
        check.same("P19 the sight at hour 0", idle.sight(), 5);
    }

    // Along one winding way of 77 steps, at its steps 76, 0, 75, 39 and 77 (a hut), stand lights that
    // lead from one to the next: 75 + 76 + 75 + 36 + 38 = 300 steps from step 1, one more from step 0.
    private static void looksThreeHundredTicksAhead() {
        FalseLightMarsh marsh = Marsh.of("marsh 12 12 clear 0;"
                + ("row ffffffffffff;row wwwwwwwwwwwf;row ffffffffffff;row fwwwwwwwwwww;").repeat(2)
                + "row ffffffffffff;row wwwwwwwwwwwf;row ffffffffffff;row hwwwwwwwwwww;"
                + "light 0 11 0 true;light 11 6 0 true next 0;light 1 10 0 true next 1;light 0 0 0 true next 2;"
                + "light 0 10 0 true next 3;traveller 1 0;traveller 0 0;");
        marsh.setTarget(0, 4);
        marsh.setTarget(1, 4);
        check.same("P47 300 ticks", marsh.ticksUntilDone(0), 300);
        check.element("P47 301 ticks", () -> marsh.ticksUntilDone(1));
        check.yes("P48 300 ticks", marsh.willArrive(0));
        check.no("P48 301 ticks", marsh.willArrive(1));
        check.same("P49 299 ticks", marsh.arrivedAfter(299), 0);
        check.same("P49 300 ticks", marsh.arrivedAfter(300), 1);
        check.same("P51 the same with any clearness", marsh.bestClearness(), 0);
        marsh.tick(1);
        check.same("P47 300 ticks from now", marsh.ticksUntilDone(1), 300);
        check.yes("P48 300 ticks from now", marsh.willArrive(1));
        check.same("P35 no step is left out", marsh.tick(100) + marsh.tick(100) + marsh.tick(99), 1);
        check.same("P35 300 steps", marsh.stepsTaken(0), 300);
        FalseLightMarsh sinking = Marsh.of("marsh 3 2 clear 0;row fff;row fff;light 2 0 0 false;traveller 0 0;");
        sinking.setTarget(0, 0);
        check.same("P50 not yet", sinking.sunkAfter(1), 0);
        check.same("P50 then", sinking.sunkAfter(2), 1);
        check.same("P50 and for ever", sinking.sunkAfter(300), 1);
    }

    private static void tellsWhoWillArrive() {
        FalseLightMarsh marsh = mixed();
        check.yes("P48 first", marsh.willArrive(0));
        check.yes("P48 second", marsh.willArrive(1));
        check.yes("P48 third", marsh.willArrive(2));
        check.no("P48 one who sinks", marsh.willArrive(3));
        marsh.tick(1);
        check.yes("P48 one who has arrived", marsh.willArrive(1));
        check.no("P48 one who has sunk", marsh.willArrive(3));
        FalseLightMarsh idle = Marsh.of("marsh 2 2 clear 9;row fh;row ff;traveller 0 0;");
        check.no("P48 one who stands for ever", idle.willArrive(0));
    }

    private static void countsAfterTicks() {
        FalseLightMarsh marsh = mixed();
        int[] arrived = {0, 1, 1, 2, 2, 3, 3};
        for (int ticks = 0; ticks < arrived.length; ticks++) {
            check.same("P49 after " + ticks, marsh.arrivedAfter(ticks), arrived[ticks]);
            check.same("P50 after " + ticks, marsh.sunkAfter(ticks), ticks == 0 ? 0 : 1);
        }
        marsh.tick(5);
        check.same("P49 those who have arrived count", marsh.arrivedAfter(0), 3);
        check.same("P50 those who have sunk count", marsh.sunkAfter(0), 1);
        check.same("P49 no travellers", new FalseLightMarsh().arrivedAfter(300), 0);
    }

    private static void refusesTicks() {
        FalseLightMarsh marsh = mixed();
        for (int ticks : new int[] {-1, 301, Integer.MIN_VALUE, Integer.MAX_VALUE}) {
            check.argument("P49 ticks " + ticks, () -> marsh.arrivedAfter(ticks));
            check.argument("P50 ticks " + ticks, () -> marsh.sunkAfter(ticks));
        }
    }

    private static void findsTheBestClearness() {
        check.same("P51 no travellers", new FalseLightMarsh().bestClearness(), 0);
        String way = "marsh 12 2 clear 0;row fffffffffffh;row ffffffffffff;";
        FalseLightMarsh far = Marsh.of(way + "light 11 0 1 true;traveller 3 0;traveller 0 1;");
        check.same("P51 the farther one is at distance 12, less 1 for the brightness", far.bestClearness(), 11);
        FalseLightMarsh bright = Marsh.of(way + "light 11 0 9 true;traveller 5 0;");
        check.same("P51 it is seen anyway", bright.bestClearness(), 0);
        FalseLightMarsh none = Marsh.of(way + "light 0 0 9 false;traveller 5 0;");
        check.same("P51 none arrives with any", none.bestClearness(), 0);
        FalseLightMarsh between = Marsh.of(way + "light 11 0 0 true;light 1 0 0 false;traveller 5 0;traveller 9 0;");
        check.same("P51 one arrives with 2 or more, and the other sinks with 4 or more", between.bestClearness(), 2);
        String foggy = "fog 0 9;fog 1 9;fog 2 9;fog 3 9;fog 4 9;fog 5 9;fog 6 9;fog 7 9;fog 8 9;fog 9 9;fog 10 9;fog 11 9;"
                + "fog 12 9;fog 13 9;fog 14 9;fog 15 9;fog 16 9;fog 17 9;fog 18 9;fog 19 9;fog 20 9;fog 21 9;fog 22 9;fog 23 9;";
        FalseLightMarsh fog = Marsh.of(way + foggy + "light 11 0 0 true;traveller 0 0;");
        check.same("P51 the greatest clearness", fog.bestClearness(), 20);
    }

    private static void changesNothing() {
        Recipe before = new Recipe().withText("marsh 6 2 clear 7;row ffpphf;row ffffww;fog 1 3;light 4 0 0 true;light 0 0 0 false;"
                + "traveller 0 1;traveller 5 0;traveller 2 0;traveller 1 0;").with("load");
        before = before.with("layPlank", 2, 0, 1).with("setTarget", 3, 1).with("saveSnapshot", 0).with("print").withText("marsh");
        check.same("P47 is asked", before.make().ticksUntilDone(2), 2);
        check.yes("P48 is asked", before.make().willArrive(2));
        check.same("P49 is asked", before.make().arrivedAfter(300), 3);
        check.same("P50 is asked", before.make().sunkAfter(300), 1);
        check.same("P51 is asked", before.make().bestClearness(), 4);
        String due = before.everything(true);
        check.same("P47 changes nothing", before.with("ticksUntilDone", 2).everything(true), due);
        check.same("P48 changes nothing", before.with("willArrive", 2).everything(true), due);
        check.same("P49 changes nothing", before.with("arrivedAfter", 300).everything(true), due);
        check.same("P50 changes nothing", before.with("sunkAfter", 300).everything(true), due);
        check.same("P51 changes nothing", before.with("bestClearness").everything(true), due);
        check.same("P61 no change to undo", before.with("bestClearness").make().undo(), 1);
    }

    private static void goesBeyondTheLastTime() {
        FalseLightMarsh marsh = Marsh.of("marsh 5 2 clear 3;row fffff;row hffff;fog 16 9;fog 17 9;light 0 1 0 true;");
        for (int n = 0; n < 99; n++) {
            marsh.tick(100);
        }
        marsh.tick(99);
        marsh.addTraveller(3, 1);
        check.state("P52 the time is at its limit", () -> marsh.tick(1));
        check.same("P47 two hours of fog, three steps", marsh.ticksUntilDone(0), 5);
        check.yes("P48 beyond the limit", marsh.willArrive(0));
        check.same("P49 not yet", marsh.arrivedAfter(4), 0);
        check.same("P49 beyond the limit", marsh.arrivedAfter(5), 1);
        check.same("P50 beyond the limit", marsh.sunkAfter(300), 0);
        check.same("P51 beyond the limit", marsh.bestClearness(), 3);
        check.same("P16 the time stays", marsh.time(), 9999);
    }
}
