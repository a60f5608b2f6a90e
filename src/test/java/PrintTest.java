/** Promises 64 and 65. */
final class PrintTest {

    private static final Check check = new Check();

    public static void main(String[] args) {
        printsTheGround();
        printsLightsAndTravellers();
        replacesThePreviousText();
        refusesOffsets();
        check.end();
    }

    private static void printsTheGround() {
        FalseLightMarsh marsh = new FalseLightMarsh();
        check.same("P64 the length", marsh.print(), 15);
        check.same("P64 the text", Marsh.printed(marsh), "fffh\nfwwf\nffpf\n");
        FalseLightMarsh full = Marsh.of("marsh 12 12 clear 0;" + "row fwhpfwhpfwhp;".repeat(12));
        check.same("P64 the greatest length", full.print(), 156);
        check.same("P64 the greatest text", Marsh.printed(full), "fwhpfwhpfwhp\n".repeat(12));
        full.layPlank(1, 0, 9);
        full.layPlank(5, 0, 1);
        check.same("P64 planks of any strength", Marsh.printed(full).substring(0, 13), "fphpfphpfwhp\n");
    }

    private static void printsLightsAndTravellers() {
        FalseLightMarsh marsh = Marsh.of("marsh 5 2 clear 3;row fffhf;row fffff;light 3 0 0 true;light 0 0 0 false;light 0 1 0 true;"
                + "traveller 2 0;traveller 4 1;traveller 0 1;traveller 4 1;traveller 1 1;traveller 0 0;");
        check.same("P64 the lowest traveller, then lights, then the ground", Marsh.printed(marsh), "5f0*f\n24ff1\n");
        marsh.setTarget(4, 0);
        marsh.tick(1);
        check.same("P34 one has sunk", Marsh.traveller(marsh, 5).substring(0, 8), "0,0 sunk");
        check.same("P33 one has arrived", Marsh.traveller(marsh, 0).substring(0, 11), "3,0 arrived");
        check.same("P64 walking travellers only", Marsh.printed(marsh), marshAfterATick(marsh));
    }

    // The arrived one is on the hut's light, the sunk one on its false light: both lights show.
    private static String marshAfterATick(FalseLightMarsh marsh) {
        char[][] due = {"*ff*f\n".toCharArray(), "*ffff\n".toCharArray()};
        for (int traveller = 5; traveller >= 0; traveller--) {
            if (marsh.isWalking(traveller)) {
                due[marsh.travellerRow(traveller)][marsh.travellerColumn(traveller)] = (char) ('0' + traveller);
            }
        }
        return new String(due[0]) + new String(due[1]);
    }

    private static void replacesThePreviousText() {
        FalseLightMarsh marsh = Marsh.of("marsh 12 12 clear 0;" + "row ffffffffffff;".repeat(12));
        marsh.print();
        Marsh.append(marsh, "marsh 2 2 clear 1;row fw;row hp;");
        marsh.load();
        check.same("P65 the text stays as printed", marsh.printedByte(155), 10);
        check.same("P64 a shorter text", marsh.print(), 6);
        check.same("P65 its last byte", marsh.printedByte(5), 10);
        check.index("P65 nothing stays of the longer one", () -> marsh.printedByte(6));
        marsh.layPlank(1, 0, 1);
        check.same("P65 not printed again", marsh.printedByte(1), 'w');
        marsh.print();
        check.same("P65 printed again", marsh.printedByte(1), 'p');
        marsh.undo();
        check.same("P65 undo leaves it", marsh.printedByte(1), 'p');
    }

    private static void refusesOffsets() {
        FalseLightMarsh marsh = new FalseLightMarsh();
        check.index("P65 before the first print", () -> marsh.printedByte(0));
        marsh.print();
        check.index("P65 -1", () -> marsh.printedByte(-1));
        check.index("P65 the length", () -> marsh.printedByte(15));
        check.index("P65 the greatest int", () -> marsh.printedByte(Integer.MAX_VALUE));
        check.index("P65 the least int", () -> marsh.printedByte(Integer.MIN_VALUE));
        check.same("P65 the first", marsh.printedByte(0), 'f');
        check.same("P65 the last", marsh.printedByte(14), 10);
    }
}
