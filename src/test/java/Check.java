import java.nio.charset.StandardCharsets;

/** What the tests share: comparing, expecting exceptions, feeding texts. */
final class Check {
    interface Call {
        void run();
    }

    static final Class<? extends RuntimeException> INDEX = IndexOutOfBoundsException.class;
    static final Class<? extends RuntimeException> ARGUMENT = IllegalArgumentException.class;
    static final Class<? extends RuntimeException> STATE = IllegalStateException.class;

    private static int done = 0;
    private static int wrong = 0;

    private Check() {
    }

    static void same(String what, Object got, Object due) {
        done++;
        if (!got.equals(due)) {
            wrong++;
            System.out.println(what + " answered " + got + ", due is " + due);
        }
    }

    /** The call throws exactly this exception, and nothing that can be seen has changed. */
    static void refuses(String what, CoastlineRuler ruler, Class<?> due, Call call) {
        String before = seen(ruler);
        same(what + " throws", thrownBy(call), due.getSimpleName());
        same(what + " leaves", seen(ruler), before);
    }

    private static String thrownBy(Call call) {
        try {
            call.run();
            return "nothing";
        } catch (RuntimeException e) {
            return e.getClass().getSimpleName();
        }
    }

    static void finish() {
        System.out.println(done + " checks, " + wrong + " of them wrong");
        if (wrong > 0 || done == 0) {
            System.exit(1);
        }
    }

    /** Appends the text, filled up with spaces; returns its length. */
    static int feed(CoastlineRuler ruler, String text) {
        byte[] bytes = text.getBytes(StandardCharsets.ISO_8859_1);
        for (int i = 0; i < bytes.length; i += 20) {
            ruler.appendText(four(bytes, i), four(bytes, i + 4), four(bytes, i + 8),
                    four(bytes, i + 12), four(bytes, i + 16));
        }
        return bytes.length;
    }

    private static int four(byte[] bytes, int from) {
        int word = 0;
        for (int i = from; i < from + 4; i++) {
            word = word << 8 | (i < bytes.length ? bytes[i] & 255 : ' ');
        }
        return word;
    }

    static int load(CoastlineRuler ruler, String map) {
        return ruler.loadMap(feed(ruler, map));
    }

    static int add(CoastlineRuler ruler, String coast) {
        return ruler.addCoast(feed(ruler, coast));
    }

    static int run(CoastlineRuler ruler, String script) {
        return ruler.runScript(feed(ruler, script));
    }

    static CoastlineRuler with(String map) {
        CoastlineRuler ruler = new CoastlineRuler();
        same("loading " + map + " succeeds", load(ruler, map) >= 0, true);
        return ruler;
    }

    /** The error of the latest text, as code and offset. */
    static String error(CoastlineRuler ruler) {
        return ruler.errorCode() + " at " + ruler.errorOffset();
    }

    /** A coastline of this many points in a text: 0 0, 1 0, 2 0 and so on. */
    static String row(String kind, int points) {
        StringBuilder text = new StringBuilder(kind);
        for (int i = 0; i < points; i++) {
            text.append(i == 0 ? " " : ",").append(i).append(" 0");
        }
        return text.toString();
    }

    /** Inserts points behind the last one until the coastline has this many. */
    static void grow(CoastlineRuler ruler, int coast, int points) {
        while (ruler.pointCount(coast) < points) {
            ruler.insertPoint(coast, ruler.pointCount(coast), ruler.pointCount(coast), 0);
        }
    }

    static String points(CoastlineRuler ruler, int coast) {
        StringBuilder text = new StringBuilder(ruler.isIsland(coast) ? "island" : "shore");
        for (int i = 0; i < ruler.pointCount(coast); i++) {
            text.append(i == 0 ? " " : ",").append(ruler.pointX(coast, i));
            text.append(' ').append(ruler.pointY(coast, i));
        }
        return text.toString();
    }

    static String map(CoastlineRuler ruler) {
        StringBuilder text = new StringBuilder("map ");
        text.append(ruler.usesKingMetric() ? "king;" : "taxicab;");
        for (int i = 0; i < ruler.coastCount(); i++) {
            text.append(points(ruler, i)).append(';');
        }
        return text.toString();
    }

    static String ledgers(CoastlineRuler ruler) {
        return ruler.loadedPoints() + "+" + ruler.addedPoints() + "-" + ruler.removedPoints()
                + " gap " + ruler.ledgerGap();
    }

    static String output(CoastlineRuler ruler) {
        StringBuilder text = new StringBuilder();
        for (int i = 0; i < 1000; i++) {
            try {
                text.append((char) ruler.outputByte(i));
            } catch (IndexOutOfBoundsException e) {
                return text.toString();
            }
        }
        return text.toString();
    }

    /** All that can be seen without a change, in one text. */
    static String seen(CoastlineRuler ruler) {
        return map(ruler) + " " + ledgers(ruler) + " error " + error(ruler) + " output "
                + output(ruler) + " undoable " + ruler.undoableCount();
    }
}
