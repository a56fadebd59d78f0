import java.util.function.Supplier;
import java.util.function.ToLongFunction;

/** What the tests share: counting wrong answers, putting texts, telling all that an object holds. */
final class Checks {
    private static final int[] BYTES_ASKED = {'1', ':', ',', '-', '0'};
    private static int wrong = 0;
    private static int asked = 0;
    private static int sentences = 0;
    private static String sentence = "";

    private Checks() {
    }

    /** The answers that come next are due by this sentence of the document. */
    static void sentence(String words) {
        sentences++;
        sentence = "\"" + words + "\": ";
        String document = System.getProperty("document");
        if (document != null && !document.contains(words)) {
            wrong++;
            System.out.println("not in the document: " + words);
        }
    }

    static void due(String call, long got, long want) {
        asked++;
        if (got != want) {
            wrong++;
            System.out.println(sentence + call + " answered " + got + ", due is " + want);
        }
    }

    static void dueTo(String call, String got, String want) {
        asked++;
        if (!got.equals(want)) {
            wrong++;
            System.out.println(sentence + call + " answered\n    " + got + "\ndue is\n    " + want);
        }
    }

    /** The call answers that, and the object is then as one to which it was not put. */
    static void refused(String call, Supplier<CarriedRows> made, ToLongFunction<CarriedRows> put, long want) {
        CarriedRows rows = made.get();
        due(call, put.applyAsLong(rows), want);
        dueTo(call + ", and behind it all", whole(rows), whole(made.get()));
    }

    /** All that an object holds; the object is another one behind that. */
    static String whole(CarriedRows rows) {
        StringBuilder whole = new StringBuilder("rows");
        for (int r = 0; r < 6; r++) {
            whole.append(' ').append(row(rows, r));
        }
        whole.append("; counts");
        for (int what = 0; what < 3; what++) {
            whole.append(' ').append(rows.count(what));
        }
        whole.append("; law");
        for (int i = 0; i <= rows.least(0); i++) {
            whole.append(' ').append(rows.least(i));
        }
        whole.append("; next ").append(rows.next());
        tellPrime(rows, whole);
        tellText(rows, whole);
        return whole.toString();
    }

    /** The prime shows itself in the greatest number that is not BAD. */
    private static void tellPrime(CarriedRows rows, StringBuilder whole) {
        int v = 97;
        while (v > 0 && rows.add(v) == CarriedRows.BAD) {
            v--;
        }
        whole.append("; prime ").append(v + 1).append(", then numbers ").append(rows.count(1));
    }

    /** The text shows itself in its fault, in the row that it tells and in what can stand behind it. */
    private static void tellText(CarriedRows rows, StringBuilder whole) {
        whole.append("; fault ").append(rows.fault()).append("; take ").append(rows.take(3));
        whole.append(' ').append(row(rows, 3)).append("; faults behind");
        for (int sign : BYTES_ASKED) {
            rows.write(1, sign);
            whole.append(' ').append(rows.count(0)).append(' ').append(rows.fault());
        }
        whole.append("; wiped ").append(rows.wipe());
    }

    /** The text that tells register r. */
    static String row(CarriedRows rows, int r) {
        int order = rows.told(r, 0, 0);
        StringBuilder row = new StringBuilder();
        for (int i = 1; i <= order; i++) {
            row.append(i > 1 ? "," : "").append(rows.told(r, 1, i));
        }
        for (int i = 0; i < order; i++) {
            row.append(i > 0 ? ',' : ':').append(rows.told(r, 2, i));
        }
        return row.toString();
    }

    /** An object whose registers 0 and on are those rows. */
    static CarriedRows with(String... texts) {
        CarriedRows rows = new CarriedRows();
        for (int r = 0; r < texts.length; r++) {
            row(rows, r, texts[r]);
        }
        return rows;
    }

    /** The object's TEXT becomes that one, written eight bytes at a time. */
    static void put(CarriedRows rows, String text) {
        rows.wipe();
        for (int at = 0; at < text.length(); at += 8) {
            String piece = text.substring(at, Math.min(text.length(), at + 8));
            due("write of " + piece, rows.write(piece.length(), packed(piece)), at + piece.length());
        }
    }

    /** Register r becomes what the text tells. */
    static void row(CarriedRows rows, int r, String text) {
        put(rows, text);
        int order = 1;
        for (int at = 0; at < text.indexOf(':'); at++) {
            order += text.charAt(at) == ',' ? 1 : 0;
        }
        due("take of " + text, rows.take(r), order);
    }

    static long packed(String piece) {
        long v = 0;
        for (int i = 0; i < piece.length(); i++) {
            v = v << 8 | piece.charAt(i);
        }
        return v;
    }

    /** The law and the starts of register r are as the text tells. */
    static void isRow(String call, CarriedRows rows, int r, String text) {
        String[] halves = text.split(":");
        String[] law = halves[0].split(",");
        String[] starts = halves[1].split(",");
        due(call + ": order", rows.told(r, 0, 0), law.length);
        for (int i = 0; i < law.length; i++) {
            due(call + ": c" + (i + 1), rows.told(r, 1, i + 1), Integer.parseInt(law[i]));
            due(call + ": start " + i, rows.told(r, 2, i), Integer.parseInt(starts[i]));
        }
    }

    static void finish(String name) {
        System.out.println(name + ": " + asked + " answers, " + wrong + " wrong"
                + (sentences > 0 ? "; " + sentences + " sentences" : ""));
        if (wrong != 0) {
            System.exit(1);
        }
    }
}
