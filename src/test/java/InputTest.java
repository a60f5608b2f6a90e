/** Promises 2 to 6, and the text format (Terms 5). */
final class InputTest {

    private static final String HEAD = "marsh 4 3 clear 7;";
    private static final String ROWS = "row fffh;row fwwf;row ffpf;";
    private static final Check check = new Check();

    public static void main(String[] args) {
        appendsTwentyBytes();
        refusesMoreThanTheBufferTakes();
        shortens();
        readsTextsOfTheGreatestLength();
        loads();
        replacesEverythingButThePrintedText();
        failedLoadChangesLittle();
        tellsTheError();
        acceptsTokensOfAllForms();
        refusesInvalidTokens();
        refusesWrongHeads();
        refusesWrongRows();
        refusesWrongFogs();
        refusesWrongLights();
        refusesWrongTravellers();
        refusesStatementsOutOfOrder();
        refusesTextsThatEndTooEarly();
        keepsNothingOfEarlierTextsAndQuestions();
        keepsNothingOfEarlierTravellers();
        check.end();
    }

    private static void appendsTwentyBytes() {
        FalseLightMarsh marsh = new FalseLightMarsh();
        check.same("P2 new length", marsh.append(0x6d617273, 0x68203220, 0x3220636c, 0x65617220, 0x353b726f), 20);
        check.same("P2 second length", marsh.append(0x77206666, 0x3b726f77, 0x2066683b, 0x20202020, 0x0a202020), 40);
        check.same("P2 bytes in order, the most significant first", marsh.load(), 0);
        check.same("P2 loaded width", marsh.width(), 2);
        check.same("P2 loaded clearness", marsh.clearness(), 5);
        check.yes("P2 loaded hut", marsh.isHut(1, 1));
        check.same("P2 a byte above 127 is kept as such", Marsh.errorOf("marsh 4 3 clear 7" + (char) 187), 17);
        check.same("P2 zero bytes count", new FalseLightMarsh().append(0, 0, 0, 0, 0), 20);
    }

    private static void refusesMoreThanTheBufferTakes() {
        FalseLightMarsh marsh = new FalseLightMarsh();
        for (int n = 1; n <= 40; n++) {
            check.same("P2 length after " + n + " calls", marsh.append(-1, 0, 1, 2, 3), 20 * n);
        }
        check.state("P2 the length would be 820", () -> marsh.append(1, 2, 3, 4, 5));
        check.same("P2 the length stays 800", marsh.shorten(800), 800);
        check.same("P3 781", marsh.shorten(781), 781);
        check.state("P2 the length would be 801", () -> marsh.append(1, 2, 3, 4, 5));
        check.same("P3 780", marsh.shorten(780), 780);
        check.same("P2 the length becomes 800 again", marsh.append(1, 2, 3, 4, 5), 800);
    }

    private static void shortens() {
        FalseLightMarsh marsh = new FalseLightMarsh();
        check.same("P1 P3 the buffer is empty at first", marsh.shorten(0), 0);
        check.argument("P3 longer than an empty buffer", () -> marsh.shorten(1));
        check.argument("P3 negative", () -> marsh.shorten(-1));
        Marsh.append(marsh, HEAD + ROWS + "traveller 0 0;;;;");
        int length = HEAD.length() + ROWS.length() + 17;
        check.argument("P3 one too long", () -> marsh.shorten(length + 1));
        check.argument("P3 least int", () -> marsh.shorten(Integer.MIN_VALUE));
        check.argument("P3 greatest int", () -> marsh.shorten(Integer.MAX_VALUE));
        check.same("P3 the same length", marsh.shorten(length), length);
        check.same("P3 the first bytes stay", marsh.shorten(length - 3), length - 3);
        check.same("P3 what was cut off is not read", marsh.load(), 1);
        Marsh.append(marsh, "marsh 4 3 clear");
        marsh.shorten(14);
        check.argument("P3 a word is cut", marsh::load);
        check.same("P3 its rest does not belong to it", marsh.errorOffset(), 10);
        Marsh.append(marsh, "marsh 4 3 clear 123");
        marsh.shorten(18);
        check.argument("P3 a number is cut", marsh::load);
        Marsh.append(marsh, "marsh 4 3 clear 12");
        marsh.shorten(17);
        check.argument("P3 the text ends too early", marsh::load);
        check.same("P3 at its new length", marsh.errorOffset(), 17);
    }

    private static void readsTextsOfTheGreatestLength() {
        String text = HEAD + ROWS;
        String blanks = " ".repeat(800 - text.length());
        FalseLightMarsh marsh = new FalseLightMarsh();
        check.same("P2 800 bytes", Marsh.append(marsh, blanks + text), 800);
        check.same("P4 800 bytes", marsh.load(), 0);
        check.same("P7 the columns", marsh.width(), 4);
        Marsh.append(marsh, text + blanks.substring(1) + "x");
        check.argument("P4 a word at the end", marsh::load);
        check.same("P6 it is the last byte", marsh.errorOffset(), 799);
        Marsh.append(marsh, text + blanks.substring(1) + "1");
        check.argument("P4 a number at the end", marsh::load);
        check.same("P6 it is the last byte", marsh.errorOffset(), 799);
        Marsh.append(marsh, text + blanks.substring(6) + "fog 10");
        check.argument("P4 the text ends too early", marsh::load);
        check.same("P6 it is the length", marsh.errorOffset(), 800);
    }

    private static void loads() {
        FalseLightMarsh marsh = new FalseLightMarsh();
        Marsh.append(marsh, "marsh 12 2 clear 20;row ffffffffffff;row fwhpfwhpffff;fog 23 9;fog 0 4;fog 0 3;"
                + "light 3 1 9 true;light 0 0 0 false next 0;light 2 1 5 true next 0;light 11 1 4 false next 2;"
                + "traveller 3 1;traveller 0 0;traveller 0 0;");
        check.same("P4 the number of travellers", marsh.load(), 3);
        check.same("P4 all of the text", Marsh.state(marsh),
                "12x2 time 0 clear 20 fog 3 0 0 0 0 0 0 0 0 0 0 0 0 0 0 0 0 0 0 0 0 0 0 9\n"
                + "ffffffffffff\nfwh3fwh3ffff\n"
                + "light 3 1 9 true -1\nlight 0 0 0 false 0\nlight 2 1 5 true 0\nlight 11 1 4 false 2\n"
                + "3,1 walking steps 0 target -1 passed distrusts\n"
                + "0,0 walking steps 0 target -1 passed distrusts\n"
                + "0,0 walking steps 0 target -1 passed distrusts\n");
        check.same("P4 the buffer is empty afterwards", marsh.append(0, 0, 0, 0, 0), 20);
        marsh.shorten(0);
        Marsh.append(marsh, "marsh 2 12 clear 0;" + "row ff;".repeat(12));
        check.same("P4 a second text without travellers", marsh.load(), 0);
        check.same("P4 nothing of the first text stays", Marsh.state(marsh),
                "2x12 time 0 clear 0 fog" + " 0".repeat(24) + "\nff".repeat(12) + "\n");
    }

    private static void replacesEverythingButThePrintedText() {
        FalseLightMarsh marsh = new FalseLightMarsh();
        marsh.tick(5);
        marsh.setFog(3, 3);
        marsh.saveSnapshot(0);
        marsh.saveSnapshot(1);
        marsh.print();
        Marsh.append(marsh, "marsh 2 2 clear 1;row hh;row hh;");
        marsh.load();
        check.same("P4 time is 0", marsh.time(), 0);
        check.same("P4 the fog is gone", marsh.fog(3), 0);
        check.state("P4 nothing can be undone", marsh::undo);
        check.element("P4 slot 0 is empty", () -> marsh.restoreSnapshot(0));
        check.element("P4 slot 1 is empty", () -> marsh.restoreSnapshot(1));
        check.same("P4 the printed text stays", marsh.printedByte(14), 10);
        check.index("P4 the printed text is no longer either", () -> marsh.printedByte(15));
        marsh.setClearness(3);
        check.same("P4 only later changes can be undone", marsh.undo(), 0);
        check.same("P4 undone to the text's clearness", marsh.clearness(), 1);
    }

    private static void failedLoadChangesLittle() {
        FalseLightMarsh marsh = new FalseLightMarsh();
        marsh.setClearness(9);
        marsh.saveSnapshot(1);
        marsh.addTraveller(0, 0);
        String before = Marsh.state(marsh);
        Marsh.append(marsh, "marsh 2 2 clear 1;row ff;row ff;light 0 0 1 true;traveller 1 1;traveller 2 0;");
        check.argument("P4 a traveller beyond the edge", marsh::load);
        check.same("P4 nothing else changed", Marsh.state(marsh), before);
        check.same("P4 the buffer is empty after an error", marsh.append(0, 0, 0, 0, 0), 20);
        check.same("P4 changes can still be undone", marsh.undo(), 1);
        check.same("P4 the snapshot stays", marsh.restoreSnapshot(1), 0);
        check.same("P4 with its clearness", marsh.clearness(), 9);
    }

    private static void tellsTheError() {
        FalseLightMarsh marsh = new FalseLightMarsh();
        check.no("P5 no error at first", marsh.hasError());
        check.element("P6 no error at first", marsh::errorOffset);
        check.argument("P4 an empty text", marsh::load);
        check.yes("P5 an error", marsh.hasError());
        check.same("P6 at the end of the empty text", marsh.errorOffset(), 0);
        Marsh.append(marsh, HEAD + ROWS + "x");
        check.yes("P5 append does not change the error", marsh.hasError());
        check.argument("P4 a wrong end", marsh::load);
        check.same("P6 the latest error", marsh.errorOffset(), HEAD.length() + ROWS.length());
        marsh.tick(1);
        marsh.undo();
        check.yes("P5 undo does not change the error", marsh.hasError());
        Marsh.append(marsh, HEAD + ROWS);
        check.same("P4 a right text", marsh.load(), 0);
        check.no("P5 a right text ends the error", marsh.hasError());
        check.element("P6 a right text ends the error", marsh::errorOffset);
    }

    private static void acceptsTokensOfAllForms() {
        check.same("T5 the plain text", Marsh.errorOf(HEAD + ROWS), -1);
        check.same("T5 spaces and line feeds all about",
                Marsh.errorOf("\n marsh\n4 3\n\nclear  7 ; row\nfffh;row fwwf ;\nrow ffpf;\n "), -1);
        check.same("T5 as few spaces as can be",
                Marsh.errorOf("marsh4 3clear7;row fffh;row fwwf;row ffpf;light0 0 1true;light1 0 1false next0;traveller0 1;"), -1);
        check.same("T5 leading zeros", Marsh.errorOf("marsh 004 03 clear 000;" + ROWS + "fog 023 009;"), -1);
        check.same("T5 next without a space before it", Marsh.errorOf(HEAD + ROWS + "light 0 0 1 true;light 1 0 1 true next 0;"), -1);
    }

    private static void refusesInvalidTokens() {
        check.same("T5 four digits", Marsh.errorOf("marsh 0004 3 clear 7;" + ROWS), 6);
        check.same("T5 very many digits", Marsh.errorOf("marsh 4294967300 3 clear 7;" + ROWS), 6);
        check.same("T5 a tabulator", Marsh.errorOf("marsh\t4 3 clear 7;" + ROWS), 5);
        check.same("T5 a carriage return", Marsh.errorOf(HEAD + "\r\n" + ROWS), 18);
        check.same("T5 a great letter", Marsh.errorOf("Marsh 4 3 clear 7;" + ROWS), 0);
        check.same("T5 a great letter within a word ends it", Marsh.errorOf("marsH 4 3 clear 7;" + ROWS), 0);
        check.same("T5 a minus", Marsh.errorOf("marsh -4 3 clear 7;" + ROWS), 6);
        check.same("T5 a zero byte at the end", Marsh.errorOf(HEAD + ROWS + "\0"), 45);
        check.same("T5 a byte of 255", Marsh.errorOf(HEAD + (char) 255 + ROWS), 18);
        check.same("T5 the bytes beside the letters", Marsh.errorOf(HEAD + "`"), 18);
        check.same("T5 the bytes beside the letters", Marsh.errorOf(HEAD + "{"), 18);
        check.same("T5 the bytes beside the digits", Marsh.errorOf("marsh /4"), 6);
        check.same("T5 the bytes beside the digits", Marsh.errorOf("marsh 4:"), 7);
    }

    private static void refusesWrongHeads() {
        check.same("T5 spaces only", Marsh.errorOf("   "), 3);
        check.same("T5 another word", Marsh.errorOf(" marshes 4 3"), 1);
        check.same("T5 the beginning of the word", Marsh.errorOf("mars"), 0);
        check.same("T5 another first letter", Marsh.errorOf("harsh 4 3 clear 7;" + ROWS), 0);
        check.same("T5 another last letter", Marsh.errorOf("marsz 4 3 clear 7;" + ROWS), 0);
        check.same("T5 the letters a and z belong to words", Marsh.errorOf("marsh 4 3 clear 7;az"), 18);
        check.same("T5 the letter z behind a word belongs to it", Marsh.errorOf("marshz 4 3 clear 7;" + ROWS), 0);
        check.same("T5 the letter a behind a word belongs to it", Marsh.errorOf("marsha 4 3 clear 7;" + ROWS), 0);
        check.same("T5 no columns", Marsh.errorOf("marsh"), 5);
        check.same("T5 no columns behind spaces", Marsh.errorOf("marsh  "), 7);
        check.same("T5 1 column", Marsh.errorOf("marsh 1 3 clear 7;"), 6);
        check.same("T5 13 columns", Marsh.errorOf("marsh 13 3 clear 7;"), 6);
        check.same("T5 1 row", Marsh.errorOf("marsh 4 1 clear 7;"), 8);
        check.same("T5 13 rows", Marsh.errorOf("marsh 4 13 clear 7;"), 8);
        check.same("T5 no clear", Marsh.errorOf("marsh 4 3 ;"), 10);
        check.same("T5 rows in place of clear", Marsh.errorOf("marsh 4 3 " + ROWS), 10);
        check.same("T5 rows in place of the clearness", Marsh.errorOf("marsh 4 3 clear " + ROWS), 16);
        check.same("T5 clearness 21", Marsh.errorOf("marsh 4 3 clear 21;"), 16);
        check.same("T5 a word for the clearness", Marsh.errorOf("marsh 4 3 clear x;"), 16);
        check.same("T5 no semicolon", Marsh.errorOf("marsh 4 3 clear 20 row"), 19);
        check.same("T5 the end after the head", Marsh.errorOf("marsh 12 12 clear 20;"), 21);
    }

    private static void refusesWrongRows() {
        check.same("T5 cells without row", Marsh.errorOf("marsh 3 2 clear 7;fff;row fff;"), 18);
        check.same("T5 cells without row, behind a row", Marsh.errorOf("marsh 3 2 clear 7;row fff;fff;"), 26);
        check.same("T5 no cells", Marsh.errorOf(HEAD + "row ;row fwwf;row ffpf;"), 22);
        check.same("T5 a short row", Marsh.errorOf(HEAD + "row fff;"), 22);
        check.same("T5 a long row", Marsh.errorOf(HEAD + "row fffff;"), 22);
        check.same("T5 another letter", Marsh.errorOf(HEAD + "row fffx;"), 22);
        check.same("T5 another first letter", Marsh.errorOf(HEAD + "row afff;"), 22);
        check.same("T5 a number for the cells", Marsh.errorOf(HEAD + "row 1234;"), 22);
        check.same("T5 a number within the cells", Marsh.errorOf(HEAD + "row ff1f;"), 22);
        check.same("T5 cells without a space before", Marsh.errorOf(HEAD + "rowffff;"), 18);
        check.same("T5 no semicolon", Marsh.errorOf(HEAD + "row ffff row"), 27);
        check.same("T5 two rows of three", Marsh.errorOf(HEAD + "row ffff;row ffff;"), 36);
        check.same("T5 fog after two rows of three", Marsh.errorOf(HEAD + "row ffff;row ffff;fog 1 1;"), 36);
        check.same("T5 a fourth row", Marsh.errorOf(HEAD + ROWS + "row ffff;"), 45);
    }

    private static void refusesWrongFogs() {
        String text = HEAD + ROWS;
        check.same("T5 hour 24", Marsh.errorOf(text + "fog 24 0;"), 49);
        check.same("T5 hour 23", Marsh.errorOf(text + "fog 23 0;"), -1);
        check.same("T5 fog 10", Marsh.errorOf(text + "fog 0 10;"), 51);
        check.same("T5 fog 9", Marsh.errorOf(text + "fog 0 9;"), -1);
        check.same("T5 no fog", Marsh.errorOf(text + "fog 0;"), 50);
        check.same("T5 no hour", Marsh.errorOf(text + "fog ;"), 49);
        check.same("T5 no semicolon", Marsh.errorOf(text + "fog 0 9"), 52);
        check.same("T5 as many fogs as the text takes", Marsh.errorOf(text + "fog0 1;".repeat(100)), -1);
        check.same("T5 the latest counts", Marsh.of(text + "fog 5 1;fog 5 8;fog 5 2;").fog(5), 2);
    }

    private static void refusesWrongLights() {
        String text = HEAD + ROWS;
        check.same("T5 column 4", Marsh.errorOf(text + "light 4 0 1 true;"), 51);
        check.same("T5 column 3", Marsh.errorOf(text + "light 3 0 1 true;"), -1);
        check.same("T5 row 3", Marsh.errorOf(text + "light 0 3 1 true;"), 53);
        check.same("T5 row 2", Marsh.errorOf(text + "light 0 2 1 true;"), -1);
        check.same("T5 on water", Marsh.errorOf(text + "light 1 1 1 true;"), 53);
        check.same("T5 on a plank", Marsh.errorOf(text + "light 2 2 1 true;"), -1);
        check.same("T5 on another light", Marsh.errorOf(text + "light 0 2 1 true;light 0 2 1 true;"), 70);
        check.same("T5 brightness 10", Marsh.errorOf(text + "light 0 0 10 true;"), 55);
        check.same("T5 brightness 9", Marsh.errorOf(text + "light 0 0 9 true;"), -1);
        check.same("T5 neither true nor false", Marsh.errorOf(text + "light 0 0 9 tru;"), 57);
        check.same("T5 both true and false", Marsh.errorOf(text + "light 0 0 9 true false;"), 62);
        check.same("T5 no successor after next", Marsh.errorOf(text + "light 0 0 9 true;light 1 0 9 true next;"), 83);
        check.same("T5 a first light has none before it", Marsh.errorOf(text + "light 0 0 9 true next 0;"), 67);
        check.same("T5 next in place of true", Marsh.errorOf(text + "light 0 0 9 true;light 1 0 9 next 0;"), 74);
        check.same("T5 the light itself", Marsh.errorOf(text + "light 0 0 9 true;light 1 0 9 true next 1;"), 84);
        check.same("T5 a successor before it", Marsh.errorOf(text + "light 0 0 9 true;light 1 0 9 true next 0;"), -1);
        check.same("T5 two successors", Marsh.errorOf(text + "light 0 0 9 true;light 1 0 9 true next 0 next 0;"), 86);
        check.same("T5 no semicolon", Marsh.errorOf(text + "light 0 0 9 true"), 61);
        String eight = text + "light 0 0 0 true;light 1 0 0 true;light 2 0 0 true;light 3 0 0 true;light 0 1 0 true;"
                + "light 3 1 0 true;light 0 2 0 true;light 1 2 0 true;";
        check.same("T5 8 lights", Marsh.of(eight).lightCount(), 8);
        check.same("T5 the word light of a 9th", Marsh.errorOf(eight + "light 2 2 0 true;"), eight.length());
        check.same("T5 8 lights and a traveller", Marsh.errorOf(eight + "traveller 0 0;"), -1);
    }

    private static void refusesWrongTravellers() {
        String text = HEAD + ROWS;
        check.same("T5 column 4", Marsh.errorOf(text + "traveller 4 0;"), 55);
        check.same("T5 row 3", Marsh.errorOf(text + "traveller 3 3;"), 57);
        check.same("T5 the last cell", Marsh.errorOf(text + "traveller 3 2;"), -1);
        check.same("T5 on water", Marsh.errorOf(text + "traveller 2 1;"), 57);
        check.same("T5 on a hut", Marsh.errorOf(text + "traveller 3 0;"), 57);
        check.same("T5 on a plank", Marsh.errorOf(text + "traveller 2 2;"), -1);
        check.same("T5 on a light", Marsh.errorOf(text + "light 0 0 0 false;traveller 0 0;"), -1);
        check.same("T5 no row", Marsh.errorOf(text + "traveller 2;"), 56);
        check.same("T5 no semicolon", Marsh.errorOf(text + "traveller 0 0"), 58);
        String six = text + "traveller 0 0;".repeat(6);
        check.same("T5 6 travellers on a cell", Marsh.of(six).travellerCount(), 6);
        check.same("T5 the word traveller of a 7th", Marsh.errorOf(six + " traveller 0 0;"), six.length() + 1);
    }

    private static void refusesStatementsOutOfOrder() {
        String text = HEAD + ROWS;
        check.same("T5 a fog after a light", Marsh.errorOf(text + "light 0 0 0 true;fog 0 1;"), 62);
        check.same("T5 a light after a traveller", Marsh.errorOf(text + "traveller 0 0;light 0 0 0 true;"), 59);
        check.same("T5 a second text", Marsh.errorOf(text + text), 45);
        check.same("T5 a semicolon too many", Marsh.errorOf(text + ";"), 45);
        check.same("T5 a number at the end", Marsh.errorOf(text + " 5"), 46);
        check.same("T5 a light within a fog", Marsh.errorOf(text + "fog light 0 0 0 true;"), 49);
        check.same("T5 a light within a fog", Marsh.errorOf(text + "fog 1 light 0 0 0 true;"), 51);
        check.same("T5 a traveller within a light", Marsh.errorOf(text + "light 0 traveller 0 0;"), 53);
        check.same("T5 a traveller within a light", Marsh.errorOf(text + "light 0 0 traveller 0 0;"), 55);
        check.same("T5 a traveller within a light", Marsh.errorOf(text + "light 0 0 1 traveller 0 0;"), 57);
        check.same("T5 a traveller within a traveller", Marsh.errorOf(text + "traveller traveller 0 0;"), 55);
    }

    private static void keepsNothingOfEarlierTravellers() {
        String light = "marsh 4 2 clear 9;row ffff;row ffff;light 1 0 0 false;";
        FalseLightMarsh marsh = Marsh.of(light + "traveller 1 0;traveller 3 0;traveller 3 1;");
        check.same("P50 one sinks, and the others are warned", marsh.sunkAfter(1), 1);
        Marsh.append(marsh, light + "light 0 1 0 true;traveller 2 0;traveller 2 1;");
        check.same("P4 two travellers", marsh.load(), 2);
        check.no("P4 the first was not warned", marsh.distrusts(0, 0));
        check.no("P4 the second was not warned", marsh.distrusts(1, 0));
        check.same("P49 nor has anyone arrived", marsh.arrivedAfter(300), 0);
        FalseLightMarsh far = Marsh.of(light + "light 0 1 0 true;traveller 0 0;traveller 3 1;traveller 3 1;");
        far.setTarget(1, 1);
        far.setTarget(2, 1);
        check.same("P50 only the first sinks", far.sunkAfter(300), 1);
        Marsh.append(far, light + "traveller 2 0;");
        far.load();
        check.same("P46 the steps of earlier travellers do not count", far.meanSteps(), 0.0);
        check.same("P43 nor do they themselves", far.arrivedCount() + far.sunkCount(), 0);
    }

    private static void refusesTextsThatEndTooEarly() {
        String[] tokens = (HEAD + ROWS + "fog 1 2;fog 3 4;light 0 0 1 true;light 1 0 2 false next 0;traveller 0 0;traveller 0 1;")
                .replace(";", " ;").split(" ");
        StringBuilder text = new StringBuilder();
        int semicolons = 0;
        for (String token : tokens) {
            for (String part : token.startsWith(";") && token.length() > 1 ? new String[] {";", token.substring(1)} : new String[] {token}) {
                text.append(part).append(' ');
                semicolons += part.equals(";") ? 1 : 0;
                boolean whole = part.equals(";") && semicolons >= 4;
                check.same("T5 the text " + text, Marsh.errorOf(text.toString()), whole ? -1 : text.length());
            }
        }
        check.same("T5 all statements were read", semicolons, 10);
    }

    private static void keepsNothingOfEarlierTextsAndQuestions() {
        FalseLightMarsh marsh = Marsh.of("marsh 12 12 clear 9;" + "row ffffffffffff;".repeat(12)
                + "fog 4 4;light 0 0 1 true;light 5 5 1 true next 0;light 3 3 1 false;traveller 9 9;traveller 0 1;traveller 4 3;traveller 2 3;");
        marsh.tick(5);
        marsh.arrivedAfter(300);
        Marsh.append(marsh, "marsh 3 3 clear 1;row fff;row fff;row fff;light 2 2 0 false;light 1 1 0 false;traveller 0 0;traveller 0 2;");
        marsh.load();
        check.same("P4 all of the second text, and no more", Marsh.state(marsh),
                "3x3 time 0 clear 1 fog" + " 0".repeat(24) + "\nfff\nfff\nfff\nlight 2 2 0 false -1\nlight 1 1 0 false -1\n"
                + "0,0 walking steps 0 target -1 passed distrusts\n0,2 walking steps 0 target -1 passed distrusts\n");
        Marsh.append(marsh, "marsh 3 2 clear 1;row fff;row fff;light 0 2 1 true;");
        check.argument("P4 a light on a row that an earlier text had", marsh::load);
        check.same("P6 at the row", marsh.errorOffset(), 42);
        Marsh.append(marsh, "marsh 2 3 clear 1;row ff;row ff;row ff;light 2 0 1 true;");
        check.argument("P4 a light on a column that an earlier text had", marsh::load);
        check.same("P6 at the column", marsh.errorOffset(), 45);
        Marsh.append(marsh, "marsh 3 2 clear 1;row fff;row fff;traveller 0 2;");
        check.argument("P4 a traveller on a row that an earlier text had", marsh::load);
        check.same("P6 at the row", marsh.errorOffset(), 46);
        Marsh.append(marsh, "marsh 12 12 clear 1;" + "row hhhhhhhhhhhh;".repeat(12));
        marsh.load();
        check.same("P15 a hut", marsh.stepsToHut(11, 11), 0);
        for (String text : new String[] {"marsh 3 2 clear 1;row fff;row fff;", "marsh 12 12 clear 1;" + "row ffffffffffff;".repeat(12)}) {
            Marsh.append(marsh, text);
            marsh.load();
            check.element("P15 no hut of an earlier text", () -> marsh.stepsToHut(0, 0));
        }
        check.element("P14 no way", () -> Marsh.of("marsh 3 2 clear 1;row fwf;row fwf;").pathLength(0, 0, 2, 0));
    }
}
