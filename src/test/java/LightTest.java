/** Promises 20 to 28, 53, 55 and 56. */
final class LightTest {

    private static final String PLAIN = "marsh 5 3 clear 2;row fffff;row fwphf;row fffff;";
    private static final Check check = new Check();

    public static void main(String[] args) {
        addsLights();
        refusesLights();
        tellsLights();
        refusesNumbersOfNoLight();
        setsSuccessors();
        refusesSuccessors();
        clearsSuccessors();
        countsFollowers();
        findsWhatLeadsAstray();
        check.end();
    }

    private static void addsLights() {
        FalseLightMarsh marsh = Marsh.of(PLAIN);
        check.same("P20 no lights", marsh.lightCount(), 0);
        check.same("P53 the first number", marsh.addLight(4, 0, 0, true), 0);
        check.same("P53 the second number", marsh.addLight(0, 2, 9, false), 1);
        check.same("P53 on a hut", marsh.addLight(3, 1, 1, false), 2);
        check.same("P53 on a plank", marsh.addLight(2, 1, 1, false), 3);
        check.same("P20 4 lights", marsh.lightCount(), 4);
        check.no("P53 without a successor", marsh.hasSuccessor(3));
        check.same("P53 it is a change", marsh.undo(), 3);
        check.same("P53 undone", marsh.lightCount(), 3);
        check.same("P53 the number again", marsh.addLight(0, 0, 1, true), 3);
        check.yes("P53 nothing stays of the light that was undone", marsh.isTrueLight(3));
    }

    private static void refusesLights() {
        FalseLightMarsh marsh = Marsh.of(PLAIN + "light 0 0 1 true;");
        String before = Marsh.state(marsh);
        check.index("P53 column 5", () -> marsh.addLight(5, 0, 1, true));
        check.index("P53 row 3", () -> marsh.addLight(0, 3, 1, true));
        check.index("P53 column -1", () -> marsh.addLight(-1, 0, 10, true));
        check.index("P53 row -1 comes before brightness", () -> marsh.addLight(0, -1, -1, true));
        check.argument("P53 brightness 10", () -> marsh.addLight(1, 0, 10, true));
        check.argument("P53 brightness -1", () -> marsh.addLight(1, 0, -1, true));
        check.argument("P53 brightness comes before water", () -> marsh.addLight(1, 1, 10, true));
        check.state("P53 water", () -> marsh.addLight(1, 1, 1, true));
        check.state("P53 a cell with a light", () -> marsh.addLight(0, 0, 1, false));
        check.same("P53 nothing changed", Marsh.state(marsh), before);
        check.state("P53 no change to undo", marsh::undo);
        for (int light = 1; light < 8; light++) {
            check.same("P53 number", marsh.addLight(light % 5, light / 5 * 2, 1, true), light);
        }
        check.state("P53 a 9th light", () -> marsh.addLight(4, 2, 1, true));
        check.argument("P53 brightness comes before the 9th", () -> marsh.addLight(4, 2, 10, true));
        check.index("P53 the cell comes before the 9th", () -> marsh.addLight(4, 3, 1, true));
        check.same("P20 8 lights", marsh.lightCount(), 8);
    }

    private static void tellsLights() {
        FalseLightMarsh marsh = Marsh.of(PLAIN + "light 4 0 0 true;light 0 2 9 false;light 1 2 5 true next 1;");
        int[][] due = {{4, 0, 0, 1, -1}, {0, 2, 9, 0, -1}, {1, 2, 5, 1, 1}};
        for (int n = 0; n < 3; n++) {
            int light = n;
            check.same("P21 column", marsh.lightColumn(light), due[light][0]);
            check.same("P22 row", marsh.lightRow(light), due[light][1]);
            check.same("P23 brightness", marsh.brightness(light), due[light][2]);
            check.same("P24 true", marsh.isTrueLight(light) ? 1 : 0, due[light][3]);
            check.same("P25 successor", marsh.hasSuccessor(light) ? 1 : 0, due[light][4] < 0 ? 0 : 1);
            if (due[light][4] < 0) {
                check.element("P26 none", () -> marsh.successor(light));
            } else {
                check.same("P26 successor", marsh.successor(light), due[light][4]);
            }
        }
    }

    private static void refusesNumbersOfNoLight() {
        FalseLightMarsh two = Marsh.of(PLAIN + "light 4 0 0 true;light 0 2 9 false;");
        FalseLightMarsh none = new FalseLightMarsh();
        for (int light : new int[] {-1, 2, 8, Integer.MIN_VALUE, Integer.MAX_VALUE}) {
            refusesNumber(two, light);
            refusesNumber(none, light);
        }
        refusesNumber(none, 0);
    }

    private static void refusesNumber(FalseLightMarsh marsh, int light) {
        check.index("P21 no light " + light, () -> marsh.lightColumn(light));
        check.index("P22 no light " + light, () -> marsh.lightRow(light));
        check.index("P23 no light " + light, () -> marsh.brightness(light));
        check.index("P24 no light " + light, () -> marsh.isTrueLight(light));
        check.index("P25 no light " + light, () -> marsh.hasSuccessor(light));
        check.index("P26 no light " + light, () -> marsh.successor(light));
        check.index("P27 no light " + light, () -> marsh.followers(light));
        check.index("P28 no light " + light, () -> marsh.leadsAstray(light));
        check.index("P55 no light " + light, () -> marsh.setSuccessor(light, 0));
        check.index("P55 no next light " + light, () -> marsh.setSuccessor(0, light));
        check.index("P55 no light comes before the same number " + light, () -> marsh.setSuccessor(light, light));
        check.index("P56 no light " + light, () -> marsh.clearSuccessor(light));
    }

    private static void setsSuccessors() {
        FalseLightMarsh marsh = Marsh.of(PLAIN + "light 0 0 1 true;light 1 0 1 true;light 2 0 1 false;light 3 0 1 true;");
        check.same("P55 only the false one leads astray", marsh.setSuccessor(0, 1), 1);
        check.same("P26 the new successor", marsh.successor(0), 1);
        check.same("P55 one that leads to the false one", marsh.setSuccessor(3, 2), 2);
        check.same("P55 all that lead to the false one", marsh.setSuccessor(1, 3), 4);
        check.same("P55 instead of the earlier one: a ring of two", marsh.setSuccessor(1, 0), 4);
        check.same("P26 the later successor", marsh.successor(1), 0);
        check.same("P55 it is a change", marsh.undo(), 3);
        check.same("P55 undone", marsh.successor(1), 3);
        check.same("P55 a false light may have one", marsh.setSuccessor(2, 0), 4);
    }

    private static void refusesSuccessors() {
        FalseLightMarsh marsh = Marsh.of(PLAIN + "light 0 0 1 true;light 1 0 1 true;");
        check.argument("P55 the same light", () -> marsh.setSuccessor(0, 0));
        check.argument("P55 the same last light", () -> marsh.setSuccessor(1, 1));
        check.no("P55 nothing changed", marsh.hasSuccessor(0) || marsh.hasSuccessor(1));
        check.state("P55 no change to undo", marsh::undo);
    }

    private static void clearsSuccessors() {
        FalseLightMarsh marsh = Marsh.of(PLAIN + "light 0 0 1 true;light 1 0 1 true next 0;light 2 0 1 true next 1;");
        check.same("P56 the successor that it had", marsh.clearSuccessor(2), 1);
        check.no("P56 it has none any more", marsh.hasSuccessor(2));
        check.yes("P56 another keeps its own", marsh.hasSuccessor(1));
        check.element("P56 none", () -> marsh.clearSuccessor(2));
        check.element("P56 none", () -> marsh.clearSuccessor(0));
        check.same("P56 the number 0 is a successor", marsh.clearSuccessor(1), 0);
        check.same("P56 it is a change, the refused ones are none", marsh.undo(), 1);
        check.same("P56 undone", marsh.successor(1), 0);
    }

    private static void countsFollowers() {
        FalseLightMarsh marsh = Marsh.of(PLAIN + "light 0 0 1 true;light 4 2 0 false;"
                + "traveller 4 0;traveller 4 1;traveller 0 2;traveller 0 1;");
        check.same("P27 none at first", marsh.followers(0), 0);
        marsh.setTarget(0, 0);
        marsh.setTarget(3, 0);
        marsh.setTarget(2, 1);
        check.same("P27 two", marsh.followers(0), 2);
        check.same("P27 one", marsh.followers(1), 1);
        marsh.tick(1);
        check.yes("P27 one has sunk", marsh.hasSunk(1));
        check.yes("P27 one came to the light and passed it", marsh.hasPassed(3, 0));
        check.same("P27 those who walk to it", marsh.followers(0), 1);
        check.same("P27 the one far off did not see", marsh.followers(1), 1);
    }

    private static void findsWhatLeadsAstray() {
        FalseLightMarsh marsh = Marsh.of("marsh 9 2 clear 2;row fffffffff;row fffffffff;"
                + "light 0 0 0 true;light 1 0 0 true next 0;light 2 0 0 false;light 3 0 0 true next 2;"
                + "light 4 0 0 true next 3;light 5 0 0 false next 0;light 6 0 0 true next 1;light 7 0 0 true;");
        String due = "00111100";
        for (int light = 0; light < 8; light++) {
            check.same("P28 light " + light, marsh.leadsAstray(light) ? 1 : 0, due.charAt(light) - '0');
        }
        check.same("P55 how many", marsh.setSuccessor(7, 6), 4);
        check.same("P55 a ring of four true lights", marsh.setSuccessor(0, 7), 8);
        check.yes("P28 on the ring", marsh.leadsAstray(6));
        check.same("P56 the ring is cut", marsh.clearSuccessor(6), 1);
        check.no("P28 no longer", marsh.leadsAstray(1));
        FalseLightMarsh chain = Marsh.of("marsh 9 2 clear 2;row fffffffff;row fffffffff;"
                + "light 0 0 0 true;light 1 0 0 true next 0;light 2 0 0 true next 1;light 3 0 0 true next 2;"
                + "light 4 0 0 true next 3;light 5 0 0 true next 4;light 6 0 0 true next 5;light 7 0 0 true next 6;");
        check.no("P28 all 8 lights in a row", chain.leadsAstray(7));
        check.same("P28 all 8 lights in a ring", chain.setSuccessor(0, 7), 8);
        check.same("P28 two lights that point to one another", chain.setSuccessor(0, 1), 8);
    }
}
