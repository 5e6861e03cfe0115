import java.lang.reflect.Constructor;
import java.lang.reflect.Method;
import java.lang.reflect.Modifier;
import java.util.Arrays;
import java.util.Set;
import java.util.TreeSet;

/** The public face is the document's, with its exceptions, and nothing else can be seen. */
public final class FaceTest {
    private static final String INDEX = " IndexOutOfBoundsException";
    private static final String ARGUMENT = " IllegalArgumentException";
    private static final String STATE = " IllegalStateException";

    private static final String[] FACE = {
        "int appendText 5", "int loadMap 1" + ARGUMENT, "int errorCode 0", "int errorOffset 0",
        "int coastCount 0", "boolean usesKingMetric 0", "boolean isIsland 1" + INDEX,
        "int pointCount 1" + INDEX, "int pointX 2" + INDEX, "int pointY 2" + INDEX,
        "int pointDistance 3" + INDEX, "int nearestPoint 3" + INDEX + ARGUMENT,
        "int lengthAt 2" + INDEX + ARGUMENT, "int stickCount 2" + INDEX + ARGUMENT,
        "int stickStart 3" + INDEX + ARGUMENT, "int stickLength 3" + INDEX + ARGUMENT,
        "int longestStick 2" + INDEX + ARGUMENT, "int lengthGain 2" + INDEX + ARGUMENT,
        "int levelOfGreatestGain 1" + INDEX, "int coarsestLevelFor 2" + INDEX + ARGUMENT,
        "int coarsestExactLevel 1" + INDEX, "int totalLength 1" + ARGUMENT,
        "int longestCoast 1" + ARGUMENT, "double refinementRatio 2" + INDEX + ARGUMENT,
        "float meanStickLength 2" + INDEX + ARGUMENT, "int doubledArea 1" + INDEX + STATE,
        "boolean isCounterclockwise 1" + INDEX + STATE,
        "boolean contains 3" + INDEX + STATE + ARGUMENT, "boolean encloses 2" + INDEX + STATE,
        "int innermostIslandAround 1" + INDEX, "int ringDepth 1" + INDEX, "int boxWidth 1" + INDEX,
        "int boxHeight 1" + INDEX, "int foldObstacle 2" + INDEX + ARGUMENT,
        "int lengthAfterFold 3" + INDEX + ARGUMENT, "int lengthWithoutPoint 2" + INDEX,
        "int leastImportantPoint 1" + INDEX, "int lengthInOtherMetric 2" + INDEX + ARGUMENT,
        "int loadedPoints 0", "int addedPoints 0", "int removedPoints 0", "int ledgerGap 0",
        "int addCoast 1" + ARGUMENT + STATE, "int removeCoast 1" + INDEX,
        "int fold 2" + INDEX + ARGUMENT + STATE, "int unfold 1" + INDEX + STATE,
        "int movePoint 4" + INDEX + ARGUMENT, "int insertPoint 4" + INDEX + ARGUMENT + STATE,
        "int removePoint 2" + INDEX + STATE, "int shift 3" + INDEX + ARGUMENT + STATE,
        "int reverse 1" + INDEX, "boolean setKingMetric 1", "int runScript 1" + ARGUMENT,
        "int writeLengths 1" + INDEX, "int outputByte 1" + INDEX, "int undoableCount 0",
        "int undo 0" + STATE, "void saveSnapshot 0", "int restoreSnapshot 0" + STATE};

    public static void main(String[] args) {
        Class<?> ruler = CoastlineRuler.class;
        Set<String> seen = new TreeSet<>();
        Set<String> publicNames = new TreeSet<>();
        Set<String> otherNames = new TreeSet<>();
        for (Method method : ruler.getDeclaredMethods()) {
            if (Modifier.isPublic(method.getModifiers())) {
                seen.add(signature(method));
                publicNames.add(method.getName());
            } else {
                otherNames.add(method.getName());
                Check.same(method + " is private", Modifier.isPrivate(method.getModifiers()), true);
            }
        }
        Check.same("the face", seen, new TreeSet<>(Arrays.asList(FACE)));
        for (Class<?> inside : ruler.getDeclaredClasses()) {
            for (Method method : inside.getDeclaredMethods()) {
                otherNames.add(method.getName());
            }
        }
        otherNames.retainAll(publicNames);
        Check.same("names of the face used inside", otherNames, new TreeSet<String>());
        Arrays.stream(ruler.getDeclaredFields()).forEach(field -> Check.same(field
                + " is private", Modifier.isPrivate(field.getModifiers()), true));
        Constructor<?>[] constructors = ruler.getDeclaredConstructors();
        Check.same("the constructors", Arrays.toString(constructors), "[public CoastlineRuler()]");
        Check.same("public and final", Modifier.toString(ruler.getModifiers()), "public final");
        Check.finish();
    }

    private static String signature(Method method) {
        StringBuilder text = new StringBuilder();
        text.append(method.getReturnType()).append(' ').append(method.getName());
        text.append(' ').append(method.getParameterCount());
        for (Class<?> type : method.getParameterTypes()) {
            boolean isFlag = method.getName().equals("setKingMetric");
            Check.same("a parameter of " + method.getName(), type.getName(),
                    isFlag ? "boolean" : "int");
        }
        for (Class<?> exception : method.getExceptionTypes()) {
            text.append(' ').append(exception.getSimpleName());
        }
        return text.toString();
    }
}
