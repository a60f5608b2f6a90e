/** Each sentence of Terms 5 that names a boundary case, in the document's order, with a test of its own. */
final class TextBoundaryTest {

    private static final String HEAD = "marsh 4 3 clear 7;";
    private static final String ROWS = "row fffh;row fwwf;row ffpf;";
    private static final String TEXT = HEAD + ROWS;
    private static final String EIGHT = TEXT + "light 0 0 0 true;light 1 0 0 true;light 2 0 0 true;light 3 0 0 true;"
            + "light 0 1 0 true;light 3 1 0 true;light 0 2 0 true;light 1 2 0 true;";
    private static final Check check = new Check();

    public static void main(String[] args) {
        readsUpTo800Bytes();
        takesLettersForWords();
        takesUpToThreeDigitsForNumbers();
        takesSemicolonsForTokens();
        skipsSpacesAndLineFeeds();
        refusesAllOtherBytes();
        wantsOneRowForEachRow();
        wantsOneLetterForEachColumn();
        countsTheLatestFog();
        wantsSuccessorsGivenEarlier();
        tellsTheFirstByteOfTheFirstWrongToken();
        tellsTheLengthOfATextThatEndsTooEarly();
        refusesWhatTheGrammarForbids();
        refusesNumbersOutOfTheirRange();
        refusesWrongCells();
        refusesLightsOnWaterOrLights();
        refusesTravellersOnWaterOrHuts();
        refusesANinthLight();
        refusesASeventhTraveller();
        Document.compare(check, false);
        check.end();
    }

    private static void right(String what, String text) {
        check.same(what, Marsh.errorOf(text), -1);
    }

    /** The text without its first bar, which stands before the token that is not allowed. */
    private static void wrong(String what, String text) {
        int bar = text.indexOf('|');
        check.same(what, Marsh.errorOf(text.substring(0, bar) + text.substring(bar + 1)), bar);
    }

    private static void readsUpTo800Bytes() {
        check.about("T5", "A text is read from an input buffer of at most 800 bytes.");
        String blanks = " ".repeat(800 - TEXT.length());
        right("800 bytes, the last one a token", blanks + TEXT);
        right("800 bytes, the last one a space", TEXT + blanks);
        wrong("the 800th byte is wrong", TEXT + blanks.substring(1) + "|x");
        FalseLightMarsh marsh = new FalseLightMarsh();
        check.same("the buffer is full", Marsh.append(marsh, blanks + TEXT), 800);
        check.state("no more bytes", () -> marsh.append(0, 0, 0, 0, 0));
        check.same("the text is whole", marsh.load(), 0);
    }

    private static void takesLettersForWords() {
        check.about("T5", "A maximal sequence of letters a to z is a word.");
        right("a digit ends it", "marsh4 3 clear7;" + ROWS);
        wrong("a letter more", "|marshs 4 3 clear 7;");
        wrong("the letter a more", "|marsha 4 3 clear 7;");
        wrong("the letter z more", "|marshz 4 3 clear 7;");
        wrong("a letter less", "|mars 4 3 clear 7;");
        wrong("another first letter", "|harsh 4 3 clear 7;");
        wrong("another last letter", "|marsk 4 3 clear 7;");
        wrong("two in one", HEAD + "|rowfffh;");
        wrong("two for one", "|mar sh 4 3 clear 7;");
        wrong("a word cut by a byte that is none", "|mar`sh 4 3 clear 7;");
        wrong("a great letter", "|mARSH 4 3 clear 7;");
        wrong("the byte before a", HEAD + "|`");
        wrong("the byte behind z", HEAD + "|{");
        wrong("a and z themselves", HEAD + "|az");
    }

    private static void takesUpToThreeDigitsForNumbers() {
        check.about("T5", "A maximal sequence of digits is a number of 1 to 3 digits.");
        right("one digit", TEXT + "fog 1 0;");
        right("two digits", TEXT + "fog 01 09;");
        right("three digits", "marsh 004 003 clear 020;" + ROWS + "fog 023 009;");
        wrong("four digits", TEXT + "fog |0001 0;");
        wrong("two for one", TEXT + "fog 1 0 |0;");
        wrong("the byte before 0", "marsh |/4 3 clear 7;");
        wrong("the byte behind 9", "marsh 4|: 3 clear 7;");
        right("letters end it", "marsh 4 3clear 7;" + ROWS + "light 0 0 1true;");
    }

    private static void takesSemicolonsForTokens() {
        check.about("T5", "The semicolon is a token of its own.");
        right("spaces about it", "marsh 4 3 clear 7 ; row fffh ;row fwwf\n;\nrow ffpf;");
        wrong("two of them", "marsh 4 3 clear 7;|;" + ROWS);
        wrong("none", "marsh 4 3 clear 7 |row fffh;");
        wrong("one before the text", "|;" + TEXT);
        wrong("one within", "marsh|; 4 3 clear 7;");
    }

    private static void skipsSpacesAndLineFeeds() {
        check.about("T5", "Spaces (byte 32) and line feeds (byte 10) may stand before, between and after tokens.");
        right("before", " \n" + TEXT);
        right("between", TEXT.replace(" ", "\n ").replace(";", " \n;\n"));
        right("after", TEXT + "\n ");
        right("nowhere but where they must", "marsh4 3clear7;row fffh;row fwwf;row ffpf;fog1 2;light0 0 0true;traveller0 0;");
        wrong("byte 9", TEXT + "|\t");
        wrong("byte 11", TEXT + "|" + (char) 11);
        wrong("byte 13", TEXT + "|\r\n");
        wrong("byte 31", "|" + (char) 31 + TEXT);
        wrong("byte 33", "marsh |!4 3 clear 7;");
        wrong("byte 160, which is no space here", "marsh|" + (char) 160 + "4 3 clear 7;");
    }

    private static void refusesAllOtherBytes() {
        check.about("T5", "All other bytes, and longer sequences of digits, are invalid tokens.");
        for (int one = 0; one < 256; one++) {
            boolean known = one >= 'a' && one <= 'z' || one >= '0' && one <= '9' || one == ';';
            if (one != ' ' && one != '\n') {
                wrong("byte " + one + " behind the text", TEXT + " |" + (char) one);
            }
            if (!known && one != ' ' && one != '\n') {
                wrong("byte " + one + " within a word", "|mar" + (char) one + "sh 4 3 clear 7;");
                wrong("byte " + one + " behind a word", "marsh|" + (char) one + " 4 3 clear 7;");
                wrong("byte " + one + " behind the cells", HEAD + "row fffh|" + (char) one + ";");
                wrong("byte " + one + " before a number", "marsh |" + (char) one + "4 3 clear 7;");
                wrong("byte " + one + " behind a semicolon", HEAD + "|" + (char) one + ROWS);
                wrong("byte " + one + " behind a number", "marsh 4|" + (char) one + " 3 clear 7;");
            }
        }
        wrong("four digits", "marsh |0004 3 clear 7;");
        wrong("ten digits, whose value is 4 in 32 bits", "marsh |4294967300 3 clear 7;");
        wrong("more digits than the text has room for in a number", "marsh |" + "0".repeat(700) + "4 3 clear 7;");
        wrong("four digits at the end", TEXT + "fog |0000");
    }

    private static void wantsOneRowForEachRow() {
        check.about("T5", "There is exactly one \"row\" for each row, from the top.");
        wrong("one less, and the end", HEAD + "row ffff;row ffff;|");
        wrong("one less, and a fog", HEAD + "row ffff;row ffff;|fog 0 0;");
        wrong("one less, and a light", HEAD + "row ffff;row ffff;|light 0 0 0 true;");
        wrong("one less, and a traveller", HEAD + "row ffff;row ffff;|traveller 0 0;");
        wrong("none", HEAD + "|");
        wrong("one more", TEXT + "|row ffff;");
        wrong("one more behind a fog", TEXT + "fog 0 0;|row ffff;");
        FalseLightMarsh marsh = Marsh.of(TEXT);
        check.yes("the first is at the top", marsh.isHut(3, 0));
        check.yes("the last is at the bottom", marsh.isPlank(2, 2));
    }

    private static void wantsOneLetterForEachColumn() {
        check.about("T5", "Cells is a word with one letter for each column: f for firm ground, w for water, h for a hut, p for a plank of strength 3.");
        wrong("one less", HEAD + "row |fff;");
        wrong("one more", HEAD + "row |fffff;");
        wrong("none", HEAD + "row |;");
        right("12 of them", "marsh 12 2 clear 0;row fwhpfwhpfwhp;row ffffffffffff;");
        wrong("13 of them", "marsh 12 2 clear 0;row |fffffffffffff;");
        wrong("one of two", "marsh 2 2 clear 0;row |f;");
        FalseLightMarsh marsh = Marsh.of("marsh 4 2 clear 0;row fwhp;row phwf;");
        check.same("all four letters", Marsh.printed(marsh), "fwhp\nphwf\n");
        check.same("the strength", marsh.plankStrength(3, 0), 3);
    }

    private static void countsTheLatestFog() {
        check.about("T5", "the fog of other hours is 0; the latest statement for an hour counts");
        FalseLightMarsh marsh = Marsh.of(TEXT + "fog 0 9;fog 23 9;fog 0 0;fog 23 8;");
        check.same("hour 0", marsh.fog(0), 0);
        check.same("hour 23", marsh.fog(23), 8);
        for (int hour = 1; hour < 23; hour++) {
            check.same("hour " + hour, marsh.fog(hour), 0);
        }
    }

    private static void wantsSuccessorsGivenEarlier() {
        check.about("T5", "which must be a light that was given earlier in the text");
        String two = TEXT + "light 0 0 0 true;light 1 0 0 true;";
        right("the first one", two + "light 2 0 0 true next 0;");
        right("the one just before", two + "light 2 0 0 true next 1;");
        wrong("the light itself", two + "light 2 0 0 true next |2;");
        wrong("one that is given later", two + "light 2 0 0 true next |3;light 0 1 0 true;");
        wrong("there is none before the first", TEXT + "light 0 0 0 true next |0;");
        right("the 8th may have any of seven", EIGHT.replace("light 1 2 0 true;", "light 1 2 0 true next 6;"));
        wrong("but not itself", EIGHT.replace("light 1 2 0 true;", "light 1 2 0 true next |7;"));
    }

    private static void tellsTheFirstByteOfTheFirstWrongToken() {
        check.about("T5", "The error offset is the offset of the first byte of the first token that is not allowed at its place.");
        wrong("the first of two", "marsh |1 99 clear 7;");
        wrong("not the spaces before it", "marsh  \n |13 3 clear 7;");
        wrong("the first token", "|row ffff;");
        wrong("the first token behind spaces", "  \n|row ffff;");
        wrong("the last byte", TEXT + "|;");
        wrong("the first byte of a word", TEXT + "|fogs 1 1;");
    }

    private static void tellsTheLengthOfATextThatEndsTooEarly() {
        check.about("T5", "It is the length of the text if the text ends too early.");
        wrong("an empty text", "|");
        wrong("spaces only", "  \n |");
        wrong("behind a word", "marsh|");
        wrong("behind a word and spaces", "marsh \n  |");
        wrong("before the last semicolon", TEXT.substring(0, TEXT.length() - 1) + "|");
        for (String start : new String[] {"marsh 4", "marsh 4 3", "marsh 4 3 clear", "marsh 4 3 clear 7", HEAD, HEAD + "row", HEAD + "row ffff",
                TEXT + "fog", TEXT + "fog 1", TEXT + "fog 1 1", TEXT + "light", TEXT + "light 0", TEXT + "light 0 0", TEXT + "light 0 0 0",
                TEXT + "light 0 0 0 true", TEXT + "light 0 0 0 true;light 1 0 0 true next", TEXT + "light 0 0 0 true;light 1 0 0 true next 0",
                TEXT + "traveller", TEXT + "traveller 0", TEXT + "traveller 0 0"}) {
            wrong("behind " + start, start + "|");
            wrong("behind " + start + " and a space", start + " |");
        }
        FalseLightMarsh marsh = new FalseLightMarsh();
        Marsh.append(marsh, TEXT);
        marsh.shorten(TEXT.length() - 1);
        check.argument("a text that was shortened", marsh::load);
        check.same("its new length", marsh.errorOffset(), TEXT.length() - 1);
    }

    private static void refusesWhatTheGrammarForbids() {
        check.about("T5", "A token is not allowed if the grammar forbids it");
        wrong("a light before the fogs", TEXT + "light 0 0 0 true;|fog 1 1;");
        wrong("a traveller before the lights", TEXT + "traveller 0 0;|light 0 0 0 true;");
        wrong("a traveller before the fogs", TEXT + "traveller 0 0;|fog 1 1;");
        wrong("a fog before the rows", HEAD + "|fog 1 1;" + ROWS);
        wrong("a second text", TEXT + "|" + TEXT);
        wrong("neither true nor false", TEXT + "light 0 0 0 |next 0;");
        wrong("both", TEXT + "light 0 0 0 true |false;");
        wrong("two successors", TEXT + "light 0 0 0 true;light 1 0 0 true next 0 |next 0;");
        wrong("a number for a word", TEXT + "light 0 0 0 |1;");
        wrong("a word for a number", TEXT + "light 0 0 |true;");
        wrong("a successor without next", TEXT + "light 0 0 0 true;light 1 0 0 true |0;");
        wrong("a third number of a fog", TEXT + "fog 1 1 |1;");
        wrong("a third number of a traveller", TEXT + "traveller 0 0 |0;");
        wrong("a third number of a marsh", "marsh 4 3 |7 clear 7;");
        wrong("two words of cells", HEAD + "row ffff |ffff;");
        wrong("cells without row", HEAD + "|ffff;");
    }

    private static void refusesNumbersOutOfTheirRange() {
        check.about("T5", "if it is a number out of its range");
        wrong("columns 1", "marsh |1 3 clear 7;");
        wrong("columns 13", "marsh |13 3 clear 7;");
        wrong("rows 1", "marsh 4 |1 clear 7;");
        wrong("rows 13", "marsh 4 |13 clear 7;");
        right("clearness 0", "marsh 4 3 clear 0;" + ROWS);
        right("clearness 20", "marsh 4 3 clear 20;" + ROWS);
        wrong("clearness 21", "marsh 4 3 clear |21;");
        right("hour and fog 0", TEXT + "fog 0 0;");
        right("hour 23, fog 9", TEXT + "fog 23 9;");
        wrong("hour 24", TEXT + "fog |24 9;");
        wrong("fog 10", TEXT + "fog 23 |10;");
        right("a light in the last cell", TEXT + "light 3 2 9 true;");
        wrong("a light's column 4", TEXT + "light |4 2 9 true;");
        wrong("a light's row 3", TEXT + "light 3 |3 9 true;");
        wrong("brightness 10", TEXT + "light 3 2 |10 true;");
        right("a traveller in the last cell", TEXT + "traveller 3 2;");
        wrong("a traveller's column 4", TEXT + "traveller |4 2;");
        wrong("a traveller's row 3", TEXT + "traveller 3 |3;");
        wrong("999", "marsh 4 3 clear |999;");
        wrong("256, which is 0 in its last byte", TEXT + "fog |256 0;");
        String wide = Marsh.field(12, 2, 0);
        right("column 11 of 12", wide + "light 11 1 0 true;traveller 11 1;");
        wrong("column 12 of 12", wide + "light |12 0 0 true;");
        wrong("row 2 of 2, though there might be 12", wide + "traveller 0 |2;");
    }

    private static void refusesWrongCells() {
        check.about("T5", "if it is a word of cells with another length or another letter");
        wrong("a short one", HEAD + "row ffff;row |fff;");
        wrong("a long one", HEAD + "row ffff;row ffff;row |fffff;");
        for (char letter = 'a'; letter <= 'z'; letter++) {
            boolean known = "fwhp".indexOf(letter) >= 0;
            for (int at = 0; at < 4; at++) {
                StringBuilder cells = new StringBuilder("ffff");
                cells.setCharAt(at, letter);
                if (known) {
                    right("the letter " + letter, HEAD + "row " + cells + ";row ffff;row ffff;");
                } else {
                    wrong("the letter " + letter + " at " + at, HEAD + "row |" + cells + ";row ffff;row ffff;");
                }
            }
        }
    }

    private static void refusesLightsOnWaterOrLights() {
        check.about("T5", "if it is the row number of a light on water or on the cell of another light");
        wrong("on water", TEXT + "light 1 |1 0 true;");
        wrong("on water, in the next column", TEXT + "light 2 |1 0 true;");
        right("on a hut", TEXT + "light 3 0 0 true;");
        right("on a plank", TEXT + "light 2 2 0 true;");
        wrong("on another light", TEXT + "light 0 2 0 true;light 0 |2 0 true;");
        wrong("on the 1st, as the 8th", EIGHT.replace("light 1 2 0 true;", "light 0 |0 0 true;"));
        right("in the same row", TEXT + "light 0 2 0 true;light 1 2 0 true;");
        right("in the same column", TEXT + "light 0 2 0 true;light 0 1 0 true;");
        wrong("the row, though the brightness is wrong too", TEXT + "light 1 |1 10 true;");
    }

    private static void refusesTravellersOnWaterOrHuts() {
        check.about("T5", "if it is the row number of a traveller on water or on a hut");
        wrong("on water", TEXT + "traveller 1 |1;");
        wrong("on a hut", TEXT + "traveller 3 |0;");
        right("on a plank", TEXT + "traveller 2 2;");
        right("on firm ground", TEXT + "traveller 0 0;");
        right("on a light", TEXT + "light 0 0 0 false;traveller 0 0;");
        right("on another traveller", TEXT + "traveller 0 0;traveller 0 0;");
    }

    private static void refusesANinthLight() {
        check.about("T5", "if it is the word \"light\" of a 9th light");
        right("8 lights", EIGHT);
        check.same("all 8 are read", Marsh.of(EIGHT).lightCount(), 8);
        wrong("the word, though its numbers are right", EIGHT + "|light 2 2 0 true;");
        wrong("the word, though nothing follows", EIGHT + "|light");
        right("8 lights and a traveller", EIGHT + "traveller 0 0;");
    }

    private static void refusesASeventhTraveller() {
        check.about("T5", "or the word \"traveller\" of a 7th traveller");
        String six = TEXT + "traveller 0 0;traveller 1 0;traveller 2 0;traveller 0 1;traveller 3 1;traveller 0 2;";
        right("6 travellers", six);
        check.same("all 6 are read", Marsh.of(six).travellerCount(), 6);
        wrong("the word, though its numbers are right", six + "|traveller 1 2;");
        wrong("the word, though nothing follows", six + "|traveller");
        right("8 lights and 6 travellers", EIGHT + "traveller 0 0;".repeat(6));
        wrong("8 lights and 7 travellers", EIGHT + "traveller 0 0;".repeat(6) + "|traveller 0 0;");
    }
}
