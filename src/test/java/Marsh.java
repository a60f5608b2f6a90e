/** What many tests do with a marsh: put a text in, load it, read the printed text. */
final class Marsh {

    private Marsh() {
    }

    /** Appends a text of characters 0 to 255; the buffer then holds it and nothing behind it. */
    static int append(FalseLightMarsh marsh, String text) {
        int length = marsh.append(0, 0, 0, 0, 0) - 20;
        marsh.shorten(length);
        for (int at = 0; at < text.length(); at += 20) {
            marsh.append(four(text, at), four(text, at + 4), four(text, at + 8), four(text, at + 12), four(text, at + 16));
        }
        return marsh.shorten(length + text.length());
    }

    private static int four(String text, int at) {
        int bytes = 0;
        for (int n = at; n < at + 4; n++) {
            bytes = bytes << 8 | (n < text.length() ? text.charAt(n) : ' ');
        }
        return bytes;
    }

    static FalseLightMarsh of(String text) {
        FalseLightMarsh marsh = new FalseLightMarsh();
        append(marsh, text);
        marsh.load();
        return marsh;
    }

    /** The beginning of a text: firm ground everywhere. */
    static String field(int columns, int rows, int clearness) {
        return "marsh " + columns + " " + rows + " clear " + clearness + ";" + ("row " + "f".repeat(columns) + ";").repeat(rows);
    }

    /** The fogs of a text: the same from one hour to another one. */
    static String fogs(int first, int last, int fog) {
        StringBuilder text = new StringBuilder();
        for (int hour = first; hour <= last; hour++) {
            text.append("fog ").append(hour).append(' ').append(fog).append(';');
        }
        return text.toString();
    }

    /** One way of 77 steps from the first cell to the last row's first cell, which is of the given letter. */
    static String winding(int clearness, char last) {
        return "marsh 12 12 clear " + clearness + ";"
                + ("row ffffffffffff;row wwwwwwwwwwwf;row ffffffffffff;row fwwwwwwwwwww;").repeat(2)
                + "row ffffffffffff;row wwwwwwwwwwwf;row ffffffffffff;row " + last + "wwwwwwwwwww;";
    }

    static void tickTo(FalseLightMarsh marsh, int time) {
        for (int now = marsh.time(); now < time; now += 100) {
            marsh.tick(Math.min(100, time - now));
        }
    }

    /** The error offset of a text, -1 if it has no error, -2 if it matters that the greatest marsh was read just before. */
    static int errorOf(String text) {
        int error = errorOf(new FalseLightMarsh(), text);
        return errorOf(of(field(12, 12, 20)), text) == error ? error : -2;
    }

    private static int errorOf(FalseLightMarsh marsh, String text) {
        append(marsh, text);
        try {
            marsh.load();
            return -1;
        } catch (IllegalArgumentException e) {
            return marsh.errorOffset();
        }
    }

    static String printed(FalseLightMarsh marsh) {
        int length = marsh.print();
        StringBuilder text = new StringBuilder();
        for (int n = 0; n < length; n++) {
            text.append((char) marsh.printedByte(n));
        }
        return text.toString();
    }

    /** All answers of the calls that ask about the present, in one text. */
    static String state(FalseLightMarsh marsh) {
        int width = marsh.width();
        int height = marsh.height();
        int lights = marsh.lightCount();
        int travellers = marsh.travellerCount();
        StringBuilder all = new StringBuilder();
        all.append(width).append('x').append(height);
        all.append(" time ").append(marsh.time()).append(" clear ").append(marsh.clearness()).append(" fog");
        for (int hour = 0; hour < 24; hour++) {
            all.append(' ').append(marsh.fog(hour));
        }
        for (int y = 0; y < height; y++) {
            all.append('\n');
            for (int x = 0; x < width; x++) {
                all.append(sign(marsh, x, y));
            }
        }
        for (int light = 0; light < lights; light++) {
            all.append("\nlight ").append(marsh.lightColumn(light)).append(' ').append(marsh.lightRow(light));
            all.append(' ').append(marsh.brightness(light)).append(' ').append(marsh.isTrueLight(light));
            all.append(' ').append(marsh.hasSuccessor(light) ? marsh.successor(light) : -1);
        }
        for (int traveller = 0; traveller < travellers; traveller++) {
            all.append('\n').append(traveller(marsh, traveller, lights));
        }
        return all.append('\n').toString();
    }

    private static String sign(FalseLightMarsh marsh, int x, int y) {
        if (marsh.isPlank(x, y)) {
            return Integer.toString(marsh.plankStrength(x, y));
        }
        return marsh.isWater(x, y) ? "w" : marsh.isHut(x, y) ? "h" : "f";
    }

    /** The answers about one traveller: cell, state, steps, target, lights passed, lights distrusted. */
    static String traveller(FalseLightMarsh marsh, int traveller) {
        return traveller(marsh, traveller, marsh.lightCount());
    }

    private static String traveller(FalseLightMarsh marsh, int traveller, int lights) {
        StringBuilder all = new StringBuilder();
        all.append(marsh.travellerColumn(traveller)).append(',').append(marsh.travellerRow(traveller));
        all.append(marsh.isWalking(traveller) ? " walking" : "");
        all.append(marsh.hasArrived(traveller) ? " arrived" : "");
        all.append(marsh.hasSunk(traveller) ? " sunk" : "");
        all.append(" steps ").append(marsh.stepsTaken(traveller));
        all.append(" target ").append(marsh.hasTarget(traveller) ? marsh.target(traveller) : -1);
        all.append(" passed");
        for (int light = 0; light < lights; light++) {
            all.append(marsh.hasPassed(traveller, light) ? " " + light : "");
        }
        all.append(" distrusts");
        for (int light = 0; light < lights; light++) {
            all.append(marsh.distrusts(traveller, light) ? " " + light : "");
        }
        return all.toString();
    }
}
