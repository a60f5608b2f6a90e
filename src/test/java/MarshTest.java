/** Promise 1, and promises 7 to 19. */
final class MarshTest {

    private static final Check check = new Check();

    public static void main(String[] args) {
        isNewAsFromItsText();
        tellsItsSize();
        tellsItsCells();
        findsPaths();
        findsHuts();
        reachesAllCorners();
        staysInTheMarsh();
        findsHutsAfterChanges();
        tellsTimeAndSight();
        check.end();
    }

    private static void isNewAsFromItsText() {
        FalseLightMarsh marsh = new FalseLightMarsh();
        check.same("P1 the state", Marsh.state(marsh), "4x3 time 0 clear 4 fog" + " 0".repeat(24) + "\nfffh\nfwwf\nff3f\n");
        check.same("P1 the same as loaded", Marsh.state(marsh),
                Marsh.state(Marsh.of("marsh 4 3 clear 4;row fffh;row fwwf;row ffpf;")));
        check.no("P1 no error", marsh.hasError());
        check.argument("P1 an empty buffer", () -> marsh.shorten(1));
        check.state("P1 nothing to undo", marsh::undo);
        check.element("P1 no snapshot 0", () -> marsh.restoreSnapshot(0));
        check.element("P1 no snapshot 1", () -> marsh.restoreSnapshot(1));
        check.index("P1 no printed text", () -> marsh.printedByte(0));
        FalseLightMarsh other = new FalseLightMarsh();
        other.setClearness(20);
        check.same("P1 objects do not touch one another", new FalseLightMarsh().clearness(), 4);
    }

    private static void tellsItsSize() {
        check.same("P7 width", new FalseLightMarsh().width(), 4);
        check.same("P8 height", new FalseLightMarsh().height(), 3);
        FalseLightMarsh wide = Marsh.of("marsh 12 2 clear 0;row ffffffffffff;row ffffffffffff;");
        check.same("P7 the greatest width", wide.width(), 12);
        check.same("P8 the least height", wide.height(), 2);
        FalseLightMarsh high = Marsh.of("marsh 2 12 clear 0;" + "row ff;".repeat(12));
        check.same("P7 the least width", high.width(), 2);
        check.same("P8 the greatest height", high.height(), 12);
    }

    private static void tellsItsCells() {
        FalseLightMarsh marsh = Marsh.of("marsh 3 2 clear 0;row fwh;row pfw;");
        String[] rows = {"fwh", "pfw"};
        int planks = 0;
        for (int y = 0; y < 2; y++) {
            for (int x = 0; x < 3; x++) {
                char letter = rows[y].charAt(x);
                check.same("P9 water " + x + " " + y, marsh.isWater(x, y) ? 1 : 0, letter == 'w' ? 1 : 0);
                check.same("P10 hut " + x + " " + y, marsh.isHut(x, y) ? 1 : 0, letter == 'h' ? 1 : 0);
                check.same("P11 plank " + x + " " + y, marsh.isPlank(x, y) ? 1 : 0, letter == 'p' ? 1 : 0);
                planks += letter == 'p' ? 1 : 0;
                if (letter == 'p') {
                    check.same("P12 strength", marsh.plankStrength(x, y), 3);
                } else {
                    int column = x;
                    int row = y;
                    check.element("P12 no plank " + x + " " + y, () -> marsh.plankStrength(column, row));
                }
            }
        }
        check.same("P13 planks", marsh.plankCount(), planks);
        int[][] outside = {{-1, 0}, {0, -1}, {3, 0}, {0, 2}, {11, 11}, {Integer.MAX_VALUE, 0}, {0, Integer.MIN_VALUE}};
        for (int[] cell : outside) {
            check.index("P9 outside", () -> marsh.isWater(cell[0], cell[1]));
            check.index("P10 outside", () -> marsh.isHut(cell[0], cell[1]));
            check.index("P11 outside", () -> marsh.isPlank(cell[0], cell[1]));
            check.index("P12 outside", () -> marsh.plankStrength(cell[0], cell[1]));
            check.index("P14 outside first", () -> marsh.pathLength(cell[0], cell[1], 0, 0));
            check.index("P14 outside last", () -> marsh.pathLength(0, 0, cell[0], cell[1]));
            check.index("P15 outside", () -> marsh.stepsToHut(cell[0], cell[1]));
        }
        marsh.layPlank(1, 0, 9);
        check.same("P12 strength 9", marsh.plankStrength(1, 0), 9);
        check.same("P13 one more", marsh.plankCount(), 2);
        FalseLightMarsh full = Marsh.of("marsh 12 12 clear 0;" + "row pppppppppppp;".repeat(12));
        check.same("P13 planks everywhere", full.plankCount(), 144);
    }

    private static void findsPaths() {
        FalseLightMarsh marsh = Marsh.of("marsh 5 4 clear 0;row ffwff;row wwwwf;row fffff;row fwhwp;");
        check.same("P14 to itself", marsh.pathLength(0, 0, 0, 0), 0);
        check.same("P14 water to itself", marsh.pathLength(2, 0, 2, 0), 0);
        check.same("P14 one step", marsh.pathLength(0, 0, 1, 0), 1);
        check.element("P14 cut off by water", () -> marsh.pathLength(0, 0, 3, 0));
        check.same("P14 round the water", marsh.pathLength(3, 0, 0, 2), 7);
        check.same("P14 backwards", marsh.pathLength(0, 2, 3, 0), 7);
        check.same("P14 from water to ground", marsh.pathLength(2, 0, 1, 0), 1);
        check.element("P14 from ground to water", () -> marsh.pathLength(1, 0, 2, 0));
        check.element("P14 from water to water", () -> marsh.pathLength(0, 1, 1, 1));
        check.same("P14 from water, but not over other water", marsh.pathLength(2, 1, 4, 1), 4);
        check.element("P14 water starts a path, but is not in its midst", () -> marsh.pathLength(1, 0, 4, 0));
        check.same("P14 over huts and planks", marsh.pathLength(2, 3, 4, 3), 4);
        FalseLightMarsh snake = Marsh.of("marsh 12 12 clear 0;"
                + ("row ffffffffffff;row wwwwwwwwwwwf;row ffffffffffff;row fwwwwwwwwwww;").repeat(3));
        check.same("P14 a long way", snake.pathLength(0, 0, 0, 11), 77);
    }

    private static void findsHuts() {
        FalseLightMarsh marsh = Marsh.of("marsh 5 3 clear 0;row hwfff;row wwffh;row fwwww;");
        check.same("P15 on a hut", marsh.stepsToHut(0, 0), 0);
        check.same("P15 the nearest of two", marsh.stepsToHut(2, 0), 3);
        check.same("P15 from water beside the hut", marsh.stepsToHut(1, 0), 1);
        check.same("P15 from water below", marsh.stepsToHut(0, 1), 1);
        check.element("P15 cut off", () -> marsh.stepsToHut(0, 2));
        check.element("P15 water among water and an island", () -> marsh.stepsToHut(1, 2));
        check.same("P15 from water on to ground", marsh.stepsToHut(2, 2), 3);
        FalseLightMarsh bare = Marsh.of("marsh 2 2 clear 0;row ff;row ff;");
        check.element("P15 no hut", () -> bare.stepsToHut(1, 1));
    }

    /** Marshes of every size: the first cell is a hut, the last row is all planks. */
    private static void reachesAllCorners() {
        for (int width = 2; width <= 12; width++) {
            for (int height = 2; height <= 12; height++) {
                String size = width + " by " + height;
                FalseLightMarsh marsh = Marsh.of("marsh " + width + " " + height + " clear 0;row h" + "f".repeat(width - 1) + ";"
                        + ("row " + "f".repeat(width) + ";").repeat(height - 2) + "row " + "p".repeat(width) + ";");
                int steps = width + height - 2;
                check.same("P13 the last row of " + size, marsh.plankCount(), width);
                check.same("P14 from corner to corner of " + size, marsh.pathLength(0, 0, width - 1, height - 1), steps);
                check.same("P14 between the others of " + size, marsh.pathLength(width - 1, 0, 0, height - 1), steps);
                check.same("P15 from the last cell of " + size, marsh.stepsToHut(width - 1, height - 1), steps);
                marsh.addTraveller(width - 1, height - 1);
                check.same("P60 from corner to corner of " + size, marsh.setTarget(0, marsh.addLight(0, 0, 0, true)), steps);
                check.same("P47 as many ticks as steps in " + size, marsh.ticksUntilDone(0), steps);
            }
        }
    }

    /** What lay beyond the edges in a greater marsh before is no way round. */
    private static void staysInTheMarsh() {
        FalseLightMarsh marsh = Marsh.of("marsh 12 12 clear 0;row hhhhhhhhhhhh;" + "row pppppppppppp;".repeat(11));
        Marsh.append(marsh, "marsh 3 5 clear 0;" + "row fwp;".repeat(5));
        marsh.load();
        check.same("P13 no plank of the earlier marsh", marsh.plankCount(), 5);
        check.element("P14 no path below the last row", () -> marsh.pathLength(0, 4, 2, 4));
        check.element("P15 no hut of the earlier marsh", () -> marsh.stepsToHut(2, 0));
        Marsh.append(marsh, "marsh 5 3 clear 0;row fffff;row wwwww;row ppppp;");
        marsh.load();
        check.same("P13 no plank of the earlier marshes", marsh.plankCount(), 5);
        check.element("P14 no path beyond the last column", () -> marsh.pathLength(4, 0, 4, 2));
        check.element("P15 no hut of the earlier marshes", () -> marsh.stepsToHut(4, 0));
    }

    private static void findsHutsAfterChanges() {
        FalseLightMarsh marsh = new FalseLightMarsh();
        check.same("P15 of a new object", marsh.stepsToHut(0, 2), 5);
        marsh.layPlank(1, 1, 1);
        marsh.layPlank(2, 1, 9);
        check.same("P15 water became a plank: one way of many", marsh.stepsToHut(0, 2), 5);
        FalseLightMarsh round = Marsh.of("marsh 4 2 clear 9;row fwwh;row ffff;light 3 0 0 true;traveller 0 0;");
        check.same("P15 round the water", round.stepsToHut(0, 0), 5);
        round.layPlank(1, 0, 1);
        round.layPlank(2, 0, 1);
        check.same("P15 over the planks", round.stepsToHut(0, 0), 3);
        round.tick(3);
        check.same("P15 the planks broke", round.stepsToHut(0, 0), 5);
        round.undo();
        check.same("P15 before they broke", round.stepsToHut(0, 0), 3);
    }

    private static void tellsTimeAndSight() {
        FalseLightMarsh marsh = Marsh.of("marsh 2 2 clear 5;row ff;row ff;fog 0 2;fog 1 5;fog 2 9;fog 23 4;");
        check.same("P16 time", marsh.time(), 0);
        check.same("P17 clearness", marsh.clearness(), 5);
        check.same("P18 fog of hour 0", marsh.fog(0), 2);
        check.same("P18 fog of hour 23", marsh.fog(23), 4);
        check.same("P18 no fog", marsh.fog(3), 0);
        check.index("P18 hour 24", () -> marsh.fog(24));
        check.index("P18 hour -1", () -> marsh.fog(-1));
        check.same("P19 sight at hour 0", marsh.sight(), 3);
        marsh.tick(1);
        check.same("P16 time", marsh.time(), 1);
        check.same("P19 sight at hour 1", marsh.sight(), 0);
        marsh.tick(1);
        check.same("P19 at least 0", marsh.sight(), 0);
        marsh.tick(1);
        check.same("P19 no fog", marsh.sight(), 5);
        marsh.tick(20);
        check.same("P19 hour 23", marsh.sight(), 1);
        marsh.tick(1);
        check.same("P19 hour 0 of the next day", marsh.sight(), 3);
        check.same("P16 time goes on", marsh.time(), 24);
        marsh.setClearness(20);
        check.same("P17 the new clearness", marsh.clearness(), 20);
        check.same("P19 the new sight", marsh.sight(), 18);
    }
}
