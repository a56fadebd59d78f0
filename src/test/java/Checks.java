/** What the tests share: counting wrong answers, putting texts. */
final class Checks {
    private static int wrong = 0;
    private static int asked = 0;

    private Checks() {
    }

    static void due(String call, long got, long want) {
        asked++;
        if (got != want) {
            wrong++;
            System.out.println(call + " answered " + got + ", due is " + want);
        }
    }

    /** The object's TEXT becomes that one, written eight bytes at a time. */
    static void put(CarriedRows rows, String text) {
        rows.wipe();
        for (int at = 0; at < text.length(); at += 8) {
            String piece = text.substring(at, Math.min(text.length(), at + 8));
            due("write of " + piece, rows.write(piece.length(), packed(piece)), at + piece.length());
        }
    }

    /** Register r becomes what the text tells. */
    static void row(CarriedRows rows, int r, String text) {
        put(rows, text);
        int order = 1;
        for (int at = 0; at < text.indexOf(':'); at++) {
            order += text.charAt(at) == ',' ? 1 : 0;
        }
        due("take of " + text, rows.take(r), order);
    }

    static long packed(String piece) {
        long v = 0;
        for (int i = 0; i < piece.length(); i++) {
            v = v << 8 | piece.charAt(i);
        }
        return v;
    }

    /** The law and the starts of register r are as the text tells. */
    static void isRow(String call, CarriedRows rows, int r, String text) {
        String[] halves = text.split(":");
        String[] law = halves[0].split(",");
        String[] starts = halves[1].split(",");
        due(call + ": order", rows.told(r, 0, 0), law.length);
        for (int i = 0; i < law.length; i++) {
            due(call + ": c" + (i + 1), rows.told(r, 1, i + 1), Integer.parseInt(law[i]));
            due(call + ": start " + i, rows.told(r, 2, i), Integer.parseInt(starts[i]));
        }
    }

    static void finish(String name) {
        System.out.println(name + ": " + asked + " answers, " + wrong + " wrong");
        if (wrong != 0) {
            System.exit(1);
        }
    }
}
