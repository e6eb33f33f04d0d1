import java.lang.reflect.Constructor;
import java.lang.reflect.Member;
import java.lang.reflect.Method;
import java.lang.reflect.Modifier;
import java.util.ArrayList;
import java.util.Arrays;
import java.util.List;
import java.util.TreeSet;

/** The public face is that of the document, to the word, and nothing else can be seen from outside. */
public final class FaceTest {
    private static final String UNSUPPORTED = "UnsupportedOperationException";
    private static final String STATE = "IllegalStateException";
    private static final String ARGUMENT = "IllegalArgumentException";
    private static final String INDEX = "IndexOutOfBoundsException";
    private static final String ELEMENT = "NoSuchElementException";
    private static final String ARITHMETIC = "ArithmeticException";

    private static final List<String> FACE = new ArrayList<>();

    private static void face(String head, String... exceptions) {
        FACE.add(head + " " + Arrays.asList(exceptions));
    }

    private static void listActions() {
        face("int join(int)", UNSUPPORTED);
        face("int leave(int)", UNSUPPORTED);
        face("int move(int,int)", UNSUPPORTED);
        face("int exchange(int,int)", UNSUPPORTED);
        face("int wager(int,int,int)", UNSUPPORTED);
        face("int tap(int)", UNSUPPORTED);
        face("int day(int)", UNSUPPORTED);
        face("int bottle(int)", UNSUPPORTED);
        face("int letOut(int)", UNSUPPORTED);
        face("int read()", UNSUPPORTED);
        face("int append(char)", STATE);
        face("int commands()", ARGUMENT, UNSUPPORTED);
        face("int undo()", STATE);
        face("int save()");
        face("int restore()", STATE);
    }

    private static void listQuestions() {
        face("int memberOf(int,int)", INDEX, ARGUMENT);
        face("int needle(int)", INDEX);
        face("int needleAgain(int)", INDEX);
        face("int off(int)", INDEX, ELEMENT);
        face("int owner(int)", ARGUMENT, ELEMENT);
        face("int winners()");
        face("int winnersAgain()");
        face("int share()");
        face("int wouldWin(int)", ARGUMENT);
        face("int changeFor(int)", INDEX, ELEMENT);
        face("int bestGuess(int)", INDEX);
        face("int nearestFree(int)", INDEX, ELEMENT);
        face("int ranked(int,int)", ARGUMENT, ELEMENT);
        face("int weather(int)", ARGUMENT);
        face("boolean isEven()");
        face("int faultPosition()");
        face("int reason(int)", ARGUMENT, ELEMENT);
        face("int line(int)", INDEX);
        face("int board()");
        face("char character(int)", INDEX);
        face("double meanCoins()", ARITHMETIC);
        face("float tappedShare()", ARITHMETIC);
        face("int account(int)", ARGUMENT);
    }

    private static String names(Class<?>[] types) {
        StringBuilder names = new StringBuilder();
        for (Class<?> type : types) {
            names.append(names.length() == 0 ? "" : ",").append(type.getSimpleName());
        }
        return names.toString();
    }

    private static String told(Method method) {
        List<String> exceptions = new ArrayList<>();
        for (Class<?> exception : method.getExceptionTypes()) {
            exceptions.add(exception.getSimpleName());
        }
        return method.getReturnType().getSimpleName() + " " + method.getName() + "("
                + names(method.getParameterTypes()) + ") " + exceptions;
    }

    private static void checkHidden(Member member) {
        Check.due(member + " is private", Modifier.isPrivate(member.getModifiers()), true);
    }

    public static void main(String[] args) {
        listActions();
        listQuestions();
        List<String> seen = new ArrayList<>();
        TreeSet<String> publicNames = new TreeSet<>();
        for (Method method : BarometerClub.class.getDeclaredMethods()) {
            if (Modifier.isPublic(method.getModifiers())) {
                seen.add(told(method));
                publicNames.add(method.getName());
            }
        }
        Check.due("the public methods", new TreeSet<>(seen), new TreeSet<>(FACE));
        for (Method method : BarometerClub.class.getDeclaredMethods()) {
            if (!Modifier.isPublic(method.getModifiers())) {
                checkHidden(method);
                Check.due(method + " has a name of its own", publicNames.contains(method.getName()), false);
            }
        }
        Arrays.asList(BarometerClub.class.getDeclaredFields()).forEach(FaceTest::checkHidden);
        for (Class<?> inside : BarometerClub.class.getDeclaredClasses()) {
            Check.due(inside + " is static", Modifier.isStatic(inside.getModifiers()), true);
            Check.due(inside + " is not public", Modifier.isPublic(inside.getModifiers()), false);
        }
        Constructor<?>[] constructors = BarometerClub.class.getDeclaredConstructors();
        Check.due("constructors", constructors.length, 1);
        Check.due("it is public", Modifier.isPublic(constructors[0].getModifiers()), true);
        Check.due("it takes nothing", constructors[0].getParameterCount(), 0);
        Check.due("the class is final", Modifier.isFinal(BarometerClub.class.getModifiers()), true);
        Check.end();
    }
}
