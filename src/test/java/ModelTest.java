import java.lang.reflect.InvocationTargetException;
import java.lang.reflect.Method;
import java.util.ArrayList;
import java.util.Arrays;
import java.util.Comparator;
import java.util.List;

/** Long runs of all calls, right and wrong ones, each answer compared with the model's. */
public final class ModelTest {
    private static final int RUNS = 400;
    private static final int CALLS = 512;
    private static final String[] VERBS = {"shore", "island", "fold", "unfold", "move", "insert",
        "drop", "shift", "reverse", "remove", "metric"};
    private static final String[] PIECES = {";", ",", "-", "0", "1", "6", "51", "129", "1001",
        "2001", "99999999999", " ", "\n", "#", "\u00ff", "A", "map", "king", "shore", "fold", "x"};

    private static long seed;

    public static void main(String[] args) throws ReflectiveOperationException {
        Method[] methods = CoastlineRuler.class.getDeclaredMethods();
        List<Method> face = new ArrayList<>();
        for (Method method : methods) {
            if (java.lang.reflect.Modifier.isPublic(method.getModifiers())) {
                face.add(method);
            }
        }
        face.sort(Comparator.comparing(Method::getName));
        for (int run = 0; run < RUNS; run++) {
            seed = 77 + run;
            runOnce(run, face);
        }
        Check.finish();
    }

    /** A number from 0 to bound - 1, the same ones in every run of this test. */
    private static int pick(int bound) {
        seed = seed * 6364136223846793005L + 1442695040888963407L;
        return (int) ((seed >>> 33) % bound);
    }

    private static int between(int least, int greatest) {
        return least + pick(greatest - least + 1);
    }

    private static void runOnce(int run, List<Method> face) throws ReflectiveOperationException {
        CoastlineRuler ruler = new CoastlineRuler();
        Model model = new Model();
        List<String> history = new ArrayList<>();
        Method text = method(face, "appendText");
        while (history.size() < CALLS) {
            int kind = pick(20);
            if (kind == 0 && run % 2 == 1) {
                // Every other run keeps its coastlines for long, so that they get full.
                both(run, ruler, model, history, method(face, "fold"), pick(3), between(-3, 3));
            } else if (kind == 0) {
                String map = damaged(mapText(pick(6) == 0 ? 7 : pick(7)));
                feed(run, ruler, model, history, text, map);
                both(run, ruler, model, history, method(face, "loadMap"), map.length());
            } else if (kind < 3) {
                String coast = damaged(coast());
                feed(run, ruler, model, history, text, coast);
                both(run, ruler, model, history, method(face, "addCoast"),
                        orOneLess(coast.length()));
            } else if (kind < 6) {
                String script = damaged(script());
                feed(run, ruler, model, history, text, script);
                both(run, ruler, model, history, method(face, "runScript"), script.length());
            } else {
                Method method = face.get(pick(face.size()));
                both(run, ruler, model, history, method, arguments(method));
            }
        }
    }

    private static int orOneLess(int length) {
        return pick(30) == 0 ? length - 1 : length;
    }

    private static Method method(List<Method> face, String name) {
        return face.stream().filter(m -> m.getName().equals(name)).findFirst().orElseThrow();
    }

    private static void both(int run, CoastlineRuler ruler, Model model, List<String> history,
            Method method, int... n) throws ReflectiveOperationException {
        if (history.size() == CALLS) {
            return;
        }
        String due;
        try {
            due = String.valueOf(model.call(method.getName(), n));
        } catch (Model.Refused e) {
            due = e.getMessage();
        }
        String call = method.getName() + Arrays.toString(n);
        history.add(call + " " + due);
        String got = answer(ruler, method, n);
        if (!got.equals(due)) {
            System.out.println("run " + run + ": " + history.subList(Math.max(0,
                    history.size() - 9), history.size()));
        }
        Check.same("run " + run + " call " + history.size() + " " + call, got, due);
    }

    private static String answer(CoastlineRuler ruler, Method method, int[] n)
            throws ReflectiveOperationException {
        Object[] arguments = new Object[n.length];
        for (int i = 0; i < n.length; i++) {
            boolean isFlag = method.getParameterTypes()[i] == boolean.class;
            arguments[i] = isFlag ? (Object) (n[i] == 1) : (Object) n[i];
        }
        try {
            Object answer = method.invoke(ruler, arguments);
            if (answer instanceof Boolean flag) {
                return flag ? "1.0" : "0.0";
            }
            return answer == null ? "0.0" : String.valueOf(((Number) answer).doubleValue());
        } catch (InvocationTargetException e) {
            return e.getCause().getClass().getSimpleName();
        }
    }

    // ---- arguments

    private static int[] arguments(Method method) {
        int[] n = new int[method.getParameterCount()];
        boolean isOnlyLevel = method.getName().equals("totalLength")
                || method.getName().equals("longestCoast");
        for (int i = 0; i < n.length; i++) {
            n[i] = argument(method.getName(), isOnlyLevel ? 1 : i);
        }
        return n;
    }

    private static int argument(String name, int place) {
        if (pick(60) == 0) {
            int[] odd = {-1, Integer.MIN_VALUE, Integer.MAX_VALUE, 8, 7, 129, 130, 1001, -1001, 51,
                -51, 2001, -2001, 6};
            return odd[pick(odd.length)];
        }
        switch (name) {
            case "setKingMetric":
                return pick(2);
            case "appendText":
                return 0x20202020;
            case "loadMap", "addCoast", "runScript":
                return pick(20);
            case "outputByte":
                return pick(12);
            default:
                return place == 0 ? (pick(12) == 0 ? 6 : pick(5)) : laterArgument(name, place);
        }
    }

    private static int laterArgument(String name, int place) {
        boolean isPoint = place == 1 || name.equals("pointDistance");
        switch (name) {
            case "encloses":
                return pick(5);
            case "pointX", "pointY", "pointDistance", "lengthWithoutPoint", "removePoint":
                return pick(8);
            case "movePoint", "insertPoint":
                return isPoint ? pick(8) : coordinate();
            case "nearestPoint", "contains":
                return coordinate();
            case "shift":
                return pick(4) == 0 ? between(-2000, 2000) : between(-30, 30);
            case "fold", "foldObstacle":
                return pick(3) == 0 ? between(-50, 50) : between(-5, 5);
            case "lengthAfterFold":
                return isPoint ? between(-50, 50) : pick(8);
            case "coarsestLevelFor":
                return pick(3) == 0 ? pick(2000) : pick(100);
            case "stickStart", "stickLength":
                return isPoint ? pick(8) : pick(5);
            default:
                return pick(8);
        }
    }

    private static int coordinate() {
        switch (pick(10)) {
            case 0:
                return between(-1000, 1000);
            case 1:
                return pick(2) == 0 ? 1000 : -1000;
            default:
                return between(-6, 12);
        }
    }

    // ---- texts

    private static void feed(int run, CoastlineRuler ruler, Model model, List<String> history,
            Method append, String text) throws ReflectiveOperationException {
        for (int i = 0; i < text.length(); i += 20) {
            int[] words = new int[5];
            for (int j = 0; j < 20; j++) {
                int sign = i + j < text.length() ? text.charAt(i + j) : ' ';
                words[j / 4] = words[j / 4] << 8 | sign;
            }
            both(run, ruler, model, history, append, words);
        }
    }

    private static String damaged(String text) {
        if (pick(3) != 0) {
            return text;
        }
        int from = pick(4) == 0 ? text.length() : pick(text.length() + 1);
        int to = Math.min(text.length(), from + pick(3));
        return text.substring(0, from) + PIECES[pick(PIECES.length)] + text.substring(to);
    }

    private static String gap() {
        return pick(8) == 0 ? (pick(2) == 0 ? "  " : "\n") : " ";
    }

    private static String point() {
        return coordinate() + gap() + coordinate();
    }

    private static String coast() {
        if (pick(5) == 0) {
            return square(between(1, 12));
        }
        int points = pick(12) == 0 ? between(32, 35) : pick(20) == 0 ? pick(4) : between(3, 7);
        StringBuilder text = new StringBuilder(pick(2) == 0 ? "shore" : "island");
        for (int i = 0; i < points; i++) {
            text.append(i == 0 ? gap() : ",").append(points < 30 ? point() : i + " " + pick(9));
        }
        return text.toString();
    }

    private static String square(int half) {
        StringBuilder text = new StringBuilder("island ");
        text.append(-half).append(' ').append(-half).append(',');
        text.append(half).append(' ').append(-half).append(',');
        text.append(half).append(' ').append(half).append(',');
        return text.append(-half).append(' ').append(half).toString();
    }

    private static String mapText(int coasts) {
        StringBuilder text = new StringBuilder("map");
        text.append(gap()).append(pick(2) == 0 ? "king;" : "taxicab;");
        for (int i = 0; i < coasts; i++) {
            text.append(coast()).append(';');
        }
        return text.toString();
    }

    private static String script() {
        int commands = pick(8) == 0 ? between(19, 22) : pick(6);
        StringBuilder text = new StringBuilder();
        for (int i = 0; i < commands; i++) {
            String verb = commands > 10 ? "reverse" : VERBS[pick(VERBS.length)];
            text.append(command(verb)).append(';');
        }
        return text.toString();
    }

    private static String command(String verb) {
        int point = pick(20) == 0 ? between(120, 130) : pick(6);
        String start = verb + " " + (pick(20) == 0 ? pick(7) : pick(3));
        switch (verb) {
            case "shore", "island":
                return coast();
            case "metric":
                return "metric " + (pick(2) == 0 ? "king" : "taxicab");
            case "fold":
                return start + gap() + between(-51, 51);
            case "move", "insert":
                return start + gap() + point + gap() + point();
            case "drop":
                return start + " " + point;
            case "shift":
                return start + " " + between(-20, 20) + " " + between(-20, 20);
            default:
                return start;
        }
    }
}
