import java.nio.charset.StandardCharsets;

/** What the tests share: comparing, expecting exceptions, feeding texts. */
final class Check {
    interface Call {
        void on(Ruler ruler);
    }

    /** What some later calls answer, in one text. */
    interface Sight {
        String of(Ruler ruler);
    }

    static final Class<? extends RuntimeException> INDEX = IndexOutOfBoundsException.class;
    static final Class<? extends RuntimeException> ARGUMENT = IllegalArgumentException.class;
    static final Class<? extends RuntimeException> STATE = IllegalStateException.class;

    /** Together they show all that an object holds; each changes the object that it looks at. */
    private static final Sight[] SIGHTS = {Check::seen, Check::past, Check::saved,
        Check::bufferAsMap, Check::bufferAsCoast, Check::bufferAsScript};

    private static int done = 0;
    private static int wrong = 0;

    private Check() {
    }

    static void same(String what, Object got, Object due) {
        done++;
        if (!got.equals(due)) {
            wrong++;
            System.out.println(what + " answered " + got + ", due is " + due);
        }
    }

    /** The call throws exactly this exception, and changes nothing. The ruler is left alone. */
    static void refuses(String what, Ruler ruler, Class<?> due, Call call) {
        same(what + " throws", thrownBy(ruler.again(), call), due.getSimpleName());
        leavesAll(what, ruler, call);
    }

    /** No later call shows that this one was made, which may answer or throw. */
    static void leavesAll(String what, Ruler ruler, Call call) {
        for (Sight sight : SIGHTS) {
            Ruler after = ruler.again();
            thrownBy(after, call);
            same(what + " changes nothing", sight.of(after), sight.of(ruler.again()));
        }
    }

    private static String thrownBy(Ruler ruler, Call call) {
        try {
            call.on(ruler);
            return "nothing";
        } catch (RuntimeException e) {
            return e.getClass().getSimpleName();
        }
    }

    static void finish() {
        System.out.println(done + " checks, " + wrong + " of them wrong");
        if (wrong > 0 || done == 0) {
            System.exit(1);
        }
    }

    // ---- texts

    /** Appends the text, filled up with spaces; returns its length. */
    static int feed(Ruler ruler, String text) {
        byte[] bytes = text.getBytes(StandardCharsets.ISO_8859_1);
        for (int i = 0; i < bytes.length; i += 20) {
            ruler.appendText(four(bytes, i), four(bytes, i + 4), four(bytes, i + 8),
                    four(bytes, i + 12), four(bytes, i + 16));
        }
        return bytes.length;
    }

    private static int four(byte[] bytes, int from) {
        int word = 0;
        for (int i = from; i < from + 4; i++) {
            word = word << 8 | (i < bytes.length ? bytes[i] & 255 : ' ');
        }
        return word;
    }

    static int load(Ruler ruler, String map) {
        return ruler.loadMap(feed(ruler, map));
    }

    static int add(Ruler ruler, String coast) {
        return ruler.addCoast(feed(ruler, coast));
    }

    static int run(Ruler ruler, String script) {
        return ruler.runScript(feed(ruler, script));
    }

    static Ruler with(String map) {
        Ruler ruler = new Ruler();
        same("loading " + map + " succeeds", load(ruler, map) >= 0, true);
        return ruler;
    }

    /** A coastline of this many points in a text: 0 0, 1 0, 2 0 and so on. */
    static String row(String kind, int points) {
        StringBuilder text = new StringBuilder(kind);
        for (int i = 0; i < points; i++) {
            text.append(i == 0 ? " " : ",").append(i).append(" 0");
        }
        return text.toString();
    }

    /** Inserts points behind the last one until the coastline has this many. */
    static void grow(Ruler ruler, int coast, int points) {
        for (int i = ruler.pointCount(coast); i < points; i++) {
            ruler.insertPoint(coast, i, i, 0);
        }
    }

    // ---- what can be seen of an object

    /** The error of the latest text, as code and offset. */
    static String error(Ruler ruler) {
        return ruler.errorCode() + " at " + ruler.errorOffset();
    }

    static String points(Ruler ruler, int coast) {
        StringBuilder text = new StringBuilder(ruler.isIsland(coast) ? "island" : "shore");
        int count = ruler.pointCount(coast);
        for (int i = 0; i < count; i++) {
            text.append(i == 0 ? " " : ",").append(ruler.pointX(coast, i));
            text.append(' ').append(ruler.pointY(coast, i));
        }
        return text.toString();
    }

    static String map(Ruler ruler) {
        StringBuilder text = new StringBuilder("map ");
        text.append(ruler.usesKingMetric() ? "king;" : "taxicab;");
        int count = ruler.coastCount();
        for (int i = 0; i < count; i++) {
            text.append(points(ruler, i)).append(';');
        }
        return text.toString();
    }

    static String ledgers(Ruler ruler) {
        return ruler.loadedPoints() + "+" + ruler.addedPoints() + "-" + ruler.removedPoints()
                + " gap " + ruler.ledgerGap();
    }

    static String output(Ruler ruler) {
        StringBuilder text = new StringBuilder();
        for (int i = 0; i < 100; i++) {
            try {
                text.append((char) ruler.outputByte(i));
            } catch (IndexOutOfBoundsException e) {
                return text.toString();
            }
        }
        return text.toString();
    }

    /** All that can be seen without a change. */
    static String seen(Ruler ruler) {
        return map(ruler) + " " + ledgers(ruler) + " error " + error(ruler) + " output "
                + output(ruler) + " undoable " + ruler.undoableCount();
    }

    /** A few answers that tell this map from others, in few calls. */
    private static String glance(Ruler ruler) {
        StringBuilder text = new StringBuilder(ruler.usesKingMetric() ? "king" : "taxicab");
        int coasts = ruler.coastCount();
        for (int i = 0; i < coasts; i++) {
            int points = ruler.pointCount(i);
            text.append(ruler.isIsland(i) ? " island " : " shore ").append(points);
            text.append(' ').append(ruler.pointX(i, 0)).append(' ').append(ruler.pointY(i, 0));
            text.append(' ').append(ruler.lengthAt(i, 0)).append(' ').append(ruler.lengthAt(i, 1));
        }
        return text.append(' ').append(ledgers(ruler)).toString();
    }

    private static String past(Ruler ruler) {
        StringBuilder text = new StringBuilder();
        for (int left = ruler.undoableCount(); left > 0; left--) {
            text.append(ruler.undo()).append(' ').append(glance(ruler)).append('\n');
        }
        return text.toString();
    }

    private static String saved(Ruler ruler) {
        try {
            return ruler.restoreSnapshot() + " " + map(ruler) + ledgers(ruler);
        } catch (IllegalStateException e) {
            return "there is no snapshot";
        }
    }

    /** The number of bytes in the buffer; may append some more behind them. */
    static int held(Ruler ruler) {
        int held = ruler.appendText(0, 0, 0, 0, 0);
        return held < 0 ? 700 : held - 20;
    }

    private static String bufferAsMap(Ruler ruler) {
        int held = held(ruler);
        return held + " " + ruler.loadMap(held) + " " + error(ruler) + glance(ruler);
    }

    private static String bufferAsCoast(Ruler ruler) {
        if (ruler.coastCount() == 6) {
            ruler.removeCoast(5);
        }
        int held = held(ruler);
        return held + " " + ruler.addCoast(held) + " " + error(ruler) + glance(ruler);
    }

    private static String bufferAsScript(Ruler ruler) {
        int held = held(ruler);
        return held + " " + ruler.runScript(held) + " " + error(ruler) + glance(ruler);
    }
}
