/** Each sentence of Terms 1 to 3 that names a boundary case, in the document's order, with a test of its own. */
final class TermsBoundaryTest {

    private static final String NOTHING = " target -1 passed distrusts";
    private static final Check check = new Check();

    public static void main(String[] args) {
        servesForAllItsCalls();
        hasTwoToTwelveColumnsAndRows();
        countsFromLeftAndTop();
        hasPlanksOfOneToNine();
        joinsCellsThatShareASide();
        measuresDistancesWithoutSign();
        leadsPathsRoundWater();
        hasPathsOfNoLength();
        holdsEightLights();
        holdsOneLightOnACell();
        hasBrightnessUpToNine();
        countsTimeUpTo9999();
        countsHoursModulo24();
        hasClearnessUpToTwenty();
        hasFogsUpToNine();
        hasSightOfAtLeastZero();
        showsLightsUpToTheSight();
        holdsSixTravellers();
        holdsSeveralOnACell();
        letsTravellersWalkAtFirst();
        letsThemRememberNothingAtFirst();
        offersWhatIsSeenAndNeitherPassedNorDistrusted();
        Document.compare(check, false);
        check.end();
    }

    private static void servesForAllItsCalls() {
        check.about("What it is", "An object is used for at most 512 calls");
        FalseLightMarsh marsh = new FalseLightMarsh();
        for (int n = 0; n < 509; n++) {
            marsh.setClearness(n % 21);
        }
        check.same("the 510th call", marsh.clearness(), 508 % 21);
        check.same("the 511th call", marsh.undo(), 7);
        check.same("the 512th call", marsh.clearness(), 507 % 21);
    }

    private static void hasTwoToTwelveColumnsAndRows() {
        check.about("T1", "The marsh is a grid of 2 to 12 columns and 2 to 12 rows.");
        for (int columns = 2; columns <= 12; columns++) {
            for (int rows = 2; rows <= 12; rows++) {
                FalseLightMarsh marsh = Marsh.of(Marsh.field(columns, rows, 0));
                check.same(columns + " columns", marsh.width(), columns);
                check.same(rows + " rows", marsh.height(), rows);
            }
        }
        for (int number : new int[] {0, 1, 13, 14, 99, 258, 999}) {
            check.same(number + " columns", Marsh.errorOf("marsh " + number + " 2 clear 0;row f;row f;"), 6);
            check.same(number + " rows", Marsh.errorOf("marsh 2 " + number + " clear 0;row ff;"), 8);
        }
    }

    private static void countsFromLeftAndTop() {
        check.about("T1", "The cell (x, y) is in column x, counted from 0 at the left, and in row y, counted from 0 at the top.");
        FalseLightMarsh corners = Marsh.of("marsh 4 3 clear 0;row wffh;row ffff;row pfff;");
        check.yes("left and top", corners.isWater(0, 0));
        check.yes("right and top", corners.isHut(3, 0));
        check.yes("left and bottom", corners.isPlank(0, 2));
        check.no("right and bottom", corners.isWater(3, 2) || corners.isHut(3, 2) || corners.isPlank(3, 2));
    }

    private static void hasPlanksOfOneToNine() {
        check.about("T1", "A plank has a strength of 1 to 9.");
        FalseLightMarsh planks = Marsh.of("marsh 2 2 clear 0;row ww;row ww;");
        for (int strength = 1; strength <= 9; strength++) {
            planks.layPlank(1, 1, strength);
            check.same("strength", planks.plankStrength(1, 1), strength);
        }
        check.argument("strength 0", () -> planks.layPlank(0, 0, 0));
        check.argument("strength 10", () -> planks.layPlank(0, 0, 10));
        check.argument("strength 266, which is 10 in its last byte", () -> planks.layPlank(0, 0, 266));
    }

    private static void joinsCellsThatShareASide() {
        check.about("T1", "Two cells are adjacent if they share a side.");
        FalseLightMarsh corner = Marsh.of("marsh 2 2 clear 0;row fw;row wf;");
        check.element("a corner is no side", () -> corner.pathLength(0, 0, 1, 1));
        FalseLightMarsh ends = Marsh.of("marsh 12 2 clear 0;row wwwwwwwwwwwf;row fwwwwwwwwwww;");
        check.element("the end of a row and the beginning of the next one", () -> ends.pathLength(11, 0, 0, 1));
        check.element("and back", () -> ends.pathLength(0, 1, 11, 0));
        FalseLightMarsh narrow = Marsh.of("marsh 3 2 clear 0;row wwf;row fww;");
        check.element("the same in a narrow marsh", () -> narrow.pathLength(2, 0, 0, 1));
        FalseLightMarsh far = Marsh.of("marsh 3 3 clear 0;row fwf;row www;row fwf;");
        check.element("the left and the right end of a row", () -> far.pathLength(0, 0, 2, 0));
        check.element("the first and the last row", () -> far.pathLength(0, 0, 0, 2));
    }

    private static void measuresDistancesWithoutSign() {
        check.about("T1", "The distance of two cells is the difference of their columns plus the difference of their rows, both without sign.");
        FalseLightMarsh lit = Marsh.of(Marsh.field(12, 12, 0) + "light 0 0 0 true;light 11 0 0 true;light 0 11 0 true;light 11 11 0 true;light 5 4 0 true;"
                + "traveller 5 4;traveller 0 0;traveller 11 11;");
        int[][] due = {{9, 10, 12, 13, 0}, {0, 11, 11, 22, 9}, {22, 11, 11, 0, 13}};
        for (int traveller = 0; traveller < 3; traveller++) {
            for (int light = 0; light < 5; light++) {
                check.same("traveller " + traveller + " to light " + light, lit.setTarget(traveller, light), due[traveller][light]);
            }
        }
    }

    private static void leadsPathsRoundWater() {
        check.about("T1", "no cell after the first one is water");
        FalseLightMarsh marsh = Marsh.of("marsh 3 2 clear 0;row wfw;row www;");
        check.same("the first one may be water", marsh.pathLength(0, 0, 1, 0), 1);
        check.element("the last one not", () -> marsh.pathLength(1, 0, 2, 0));
        check.element("one between not", () -> marsh.pathLength(0, 1, 1, 0));
        check.element("both ends, with ground between", () -> marsh.pathLength(0, 0, 2, 0));
    }

    private static void hasPathsOfNoLength() {
        check.about("T1", "The path from a cell to itself has the length 0.");
        FalseLightMarsh all = Marsh.of("marsh 2 2 clear 0;row fw;row hp;");
        for (int cell = 0; cell < 4; cell++) {
            check.same("f, w, h, p: " + cell, all.pathLength(cell % 2, cell / 2, cell % 2, cell / 2), 0);
        }
        FalseLightMarsh sea = Marsh.of("marsh 2 2 clear 0;row ww;row ww;");
        check.same("in nothing but water", sea.pathLength(1, 1, 1, 1), 0);
    }

    private static void holdsEightLights() {
        check.about("T2", "There are at most 8 lights, numbered from 0 in the order in which they were added.");
        FalseLightMarsh marsh = Marsh.of(Marsh.field(3, 3, 0));
        for (int light = 0; light < 8; light++) {
            check.same("the number", marsh.addLight(light % 3, light / 3, 0, true), light);
            check.same("how many", marsh.lightCount(), light + 1);
        }
        check.state("a 9th", () -> marsh.addLight(2, 2, 0, true));
        check.same("still 8", marsh.lightCount(), 8);
        check.same("the last one is where it was added", marsh.lightColumn(7) + 3 * marsh.lightRow(7), 7);
    }

    private static void holdsOneLightOnACell() {
        check.about("T2", "No two lights are on the same cell, and no light is added on water.");
        FalseLightMarsh plank = Marsh.of("marsh 3 2 clear 0;row ppf;row www;light 0 0 0 true;light 2 0 0 true;traveller 0 0;");
        check.state("the cell of a light", () -> plank.addLight(0, 0, 0, true));
        check.state("water", () -> plank.addLight(0, 1, 0, true));
        plank.layPlank(0, 0, 1);
        plank.setTarget(0, 1);
        plank.tick(1);
        check.state("a light on water", () -> plank.addLight(0, 0, 0, true));
        plank.layPlank(0, 0, 1);
        check.state("a light on a plank laid anew", () -> plank.addLight(0, 0, 0, false));
        check.same("a free plank", plank.addLight(1, 0, 0, false), 2);
    }

    private static void hasBrightnessUpToNine() {
        check.about("T2", "It has a brightness of 0 to 9.");
        FalseLightMarsh bright = Marsh.of(Marsh.field(12, 2, 0));
        for (int n = 0; n <= 9; n++) {
            int brightness = n;
            FalseLightMarsh one = Marsh.of(Marsh.field(2, 2, 0) + "light 0 0 " + n + " true;");
            check.same("in a text", one.brightness(0), brightness);
            one.addLight(1, 1, brightness, false);
            check.same("added", one.brightness(1), brightness);
        }
        check.argument("-1", () -> bright.addLight(0, 0, -1, true));
        check.argument("10", () -> bright.addLight(0, 0, 10, true));
        check.same("10 in a text", Marsh.errorOf(Marsh.field(2, 2, 0) + "light 0 0 10 true;"), 42);
    }

    private static void countsTimeUpTo9999() {
        check.about("T2", "The time is 0 at first and at most 9999.");
        FalseLightMarsh marsh = Marsh.of(Marsh.field(2, 2, 20));
        check.same("at first", marsh.time(), 0);
        check.same("of a new object", new FalseLightMarsh().time(), 0);
        Marsh.tickTo(marsh, 9999);
        check.same("the last", marsh.time(), 9999);
        check.state("one more", () -> marsh.tick(1));
        check.same("still the last", marsh.time(), 9999);
    }

    private static void countsHoursModulo24() {
        check.about("T2", "The hour is the time modulo 24.");
        FalseLightMarsh marsh = Marsh.of(Marsh.field(2, 2, 20) + "fog 0 1;fog 14 2;fog 15 3;fog 16 4;fog 23 5;");
        check.same("time 0", marsh.sight(), 19);
        marsh.tick(23);
        check.same("time 23", marsh.sight(), 15);
        marsh.tick(1);
        check.same("time 24", marsh.sight(), 19);
        marsh.tick(1);
        check.same("time 25", marsh.sight(), 20);
        Marsh.tickTo(marsh, 9998);
        check.same("time 9998", marsh.sight(), 18);
        marsh.tick(1);
        check.same("time 9999", marsh.sight(), 17);
    }

    private static void hasClearnessUpToTwenty() {
        check.about("T2", "The clearness is 0 to 20.");
        FalseLightMarsh marsh = new FalseLightMarsh();
        for (int clearness = 0; clearness <= 20; clearness++) {
            check.same("in a text", Marsh.of(Marsh.field(2, 2, clearness)).clearness(), clearness);
            marsh.setClearness(clearness);
            check.same("set", marsh.clearness(), clearness);
        }
        check.argument("-1", () -> marsh.setClearness(-1));
        check.argument("21", () -> marsh.setClearness(21));
        check.same("21 in a text", Marsh.errorOf(Marsh.field(2, 2, 21)), 16);
    }

    private static void hasFogsUpToNine() {
        check.about("T2", "Each of the 24 hours has a fog of 0 to 9.");
        FalseLightMarsh fogs = Marsh.of(Marsh.field(2, 2, 9));
        for (int hour = 0; hour < 24; hour++) {
            check.same("the hour " + hour, fogs.fog(hour), 0);
            fogs.setFog(hour, 9 - hour % 10);
        }
        for (int hour = 0; hour < 24; hour++) {
            check.same("the hour " + hour, fogs.fog(hour), 9 - hour % 10);
            check.same("the sight in it", fogs.sight(), hour % 10);
            fogs.tick(1);
        }
        check.index("hour 24", () -> fogs.fog(24));
        check.index("hour -1", () -> fogs.fog(-1));
        check.argument("fog 10", () -> fogs.setFog(0, 10));
        check.argument("fog -1", () -> fogs.setFog(0, -1));
    }

    private static void hasSightOfAtLeastZero() {
        check.about("T2", "The sight is the clearness minus the fog of the hour, but at least 0.");
        FalseLightMarsh dark = Marsh.of(Marsh.field(2, 2, 0));
        for (int clearness = 0; clearness <= 20; clearness += clearness < 11 ? 1 : 9) {
            dark.setClearness(clearness);
            for (int fog = 0; fog <= 9; fog++) {
                dark.setFog(0, fog);
                check.same("clearness " + clearness + ", fog " + fog, dark.sight(), clearness < fog ? 0 : clearness - fog);
            }
        }
    }

    private static void showsLightsUpToTheSight() {
        check.about("T2", "A traveller sees a light if their distance is at most the sight plus the brightness of the light.");
        FalseLightMarsh wide = Marsh.of(Marsh.field(12, 12, 0) + "light 0 0 0 true;light 1 0 1 true;light 2 0 1 true;light 9 0 9 true;light 5 5 9 true;light 11 11 2 true;traveller 0 0;");
        int[] enough = {0, 0, 1, 0, 1, 20};
        for (int light = 0; light < 6; light++) {
            wide.setClearness(enough[light]);
            check.yes("light " + light + " with clearness " + enough[light], wide.sees(0, light));
            if (enough[light] > 0) {
                wide.setClearness(enough[light] - 1);
                check.no("light " + light + " with one less", wide.sees(0, light));
            }
        }
        wide.setClearness(0);
        wide.setFog(0, 9);
        check.yes("its own cell in the thickest fog", wide.sees(0, 0));
        check.no("the fog takes nothing from the brightness, nor adds to it", wide.sees(0, 2));
        check.yes("brightness 9 at distance 9 in the thickest fog", wide.sees(0, 3));
    }

    private static void holdsSixTravellers() {
        check.about("T3", "There are at most 6 travellers, numbered from 0 in the order in which they were added.");
        FalseLightMarsh marsh = Marsh.of(Marsh.field(3, 3, 0));
        for (int traveller = 0; traveller < 6; traveller++) {
            check.same("the number", marsh.addTraveller(traveller % 3, traveller / 3), traveller);
            check.same("how many", marsh.travellerCount(), traveller + 1);
        }
        check.state("a 7th", () -> marsh.addTraveller(2, 2));
        check.same("still 6", marsh.travellerCount(), 6);
        check.same("the last one is where it was added", marsh.travellerColumn(5) + 3 * marsh.travellerRow(5), 5);
    }

    private static void holdsSeveralOnACell() {
        check.about("T3", "Several travellers can be on the same cell.");
        FalseLightMarsh crowd = Marsh.of(Marsh.field(2, 2, 0) + "traveller 1 1;traveller 1 1;");
        for (int traveller = 2; traveller < 6; traveller++) {
            check.same("one more there", crowd.addTraveller(1, 1), traveller);
        }
    }

    private static void letsTravellersWalkAtFirst() {
        check.about("T3", "At first a traveller is walking.");
        FalseLightMarsh both = Marsh.of(Marsh.field(2, 2, 0) + "traveller 1 1;");
        both.addTraveller(0, 0);
        check.yes("one in a text", both.isWalking(0));
        check.yes("one added later", both.isWalking(1));
    }

    private static void letsThemRememberNothingAtFirst() {
        check.about("T3", "Both sets are empty at first.");
        FalseLightMarsh fresh = Marsh.of(Marsh.field(2, 2, 0) + "light 0 0 0 true;light 1 0 0 true;light 0 1 0 true;light 1 1 0 false;"
                + "traveller 1 1;traveller 0 0;traveller 1 1;");
        check.same("of one in a text", Marsh.traveller(fresh, 1), "0,0 walking steps 0" + NOTHING);
        fresh.tick(1);
        check.same("the first sank", Marsh.traveller(fresh, 0), "1,1 sunk steps 0" + NOTHING);
        check.same("the second passed", Marsh.traveller(fresh, 1), "0,0 walking steps 0 target -1 passed 0 distrusts");
        check.same("the third was warned", Marsh.traveller(fresh, 2), "1,1 walking steps 0 target -1 passed distrusts 3");
        fresh.addTraveller(1, 1);
        check.same("of one added later", Marsh.traveller(fresh, 3), "1,1 walking steps 0" + NOTHING);
    }

    private static void offersWhatIsSeenAndNeitherPassedNorDistrusted() {
        check.about("T3", "A light is acceptable to a traveller who sees it and has neither passed nor distrusted it.");
        FalseLightMarsh fresh = Marsh.of(Marsh.field(2, 2, 0) + "light 0 0 0 true;light 1 0 0 true;light 0 1 0 true;light 1 1 0 false;"
                + "traveller 1 1;traveller 0 0;traveller 1 1;");
        fresh.tick(1);
        check.element("the one passed is not", () -> fresh.nearestLight(1));
        check.element("the one distrusted is not", () -> fresh.nearestLight(2));
        check.same("to the sunk one it is", fresh.nearestLight(0), 3);
        fresh.setClearness(1);
        check.same("one that is seen is", fresh.nearestLight(1), 1);
        check.same("another one is", fresh.nearestLight(2), 1);
    }
}
