import java.lang.reflect.Constructor;
import java.lang.reflect.Field;
import java.lang.reflect.Member;
import java.lang.reflect.Method;
import java.lang.reflect.Modifier;
import java.util.ArrayList;
import java.util.Collections;
import java.util.HashSet;
import java.util.List;
import java.util.Set;

/** The public face is the document's, and nothing else can be seen from outside. */
public final class FaceTest {

    private static final String X = " IndexOutOfBoundsException";
    private static final String A = " IllegalArgumentException";
    private static final String S = " IllegalStateException";
    private static final String M = " NoSuchElementException";

    private static final String[] METHODS = {
        "int append(int,int,int,int,int)" + S,
        "int truncate(int)" + X,
        "int load()" + A,
        "int errorCode()",
        "int errorPosition()",
        "int count(int)" + A,
        "int line(int,int)" + X + A,
        "int generator(int,int)" + X + A,
        "int demand(int,int)" + X,
        "int outage()",
        "int setLimit(int,int)" + X + A,
        "int setCost(int,int)" + X + A,
        "int setCapacity(int,int)" + X + A,
        "int setDemand(int,int,int)" + X + A,
        "int setOutage(int)" + X + A,
        "int undo()" + S,
        "long factor(int,int,int)" + X + A,
        "long outageFactor(int,int,int)" + X + A + S,
        "long transferLimit(int,int,int)" + X + A,
        "boolean isFeasible(int)" + X,
        "long leastCost(int,int)" + X + A + S,
        "long congestionCost(int,int)" + X + A + S,
        "long output(int,int,int)" + X + A + S,
        "long flow(int,int,int)" + X + A + S,
        "long flowAfter(int,int,int)" + X + A + S,
        "int binding(int,boolean)" + X + S,
        "int loadBits(int,int)" + X + S,
        "long price(int,int,int)" + X + A + S + M,
        "double meanPrice(int)" + X + S + M,
        "int dearestNode(int)" + X + S + M,
        "long profit(int,int,int)" + X + A + S + M,
        "long rent(int,int,int)" + X + A + S + M,
        "long surplus(int,int)" + X + A + S + M,
        "boolean areRightsFeasible()",
        "long target(int,int,int)" + X + A + S + M,
        "long fundingRatio(int,int)" + X + A + S + M,
        "long paid(int,int,int)" + X + A + S + M,
        "long lineValue(int,int,int)" + X + A + S,
        "int reserve(int,int)" + X + S,
        "long securityCost(int,int)" + X + A + S,
    };

    private FaceTest() {
    }

    public static void main(String[] args) {
        methods();
        others();
        nested();
        Check.due("NONE", GridPrices.NONE, -1);
        Check.end();
    }

    private static String signature(Method method) {
        StringBuilder text = new StringBuilder();
        text.append(method.getReturnType().getSimpleName()).append(' ').append(method.getName()).append('(');
        for (Class<?> type : method.getParameterTypes()) {
            text.append(text.charAt(text.length() - 1) == '(' ? "" : ",").append(type.getSimpleName());
        }
        text.append(')');
        for (Class<?> thrown : method.getExceptionTypes()) {
            text.append(' ').append(thrown.getSimpleName());
        }
        return text.toString();
    }

    private static void methods() {
        List<String> got = new ArrayList<>();
        for (Method method : GridPrices.class.getDeclaredMethods()) {
            if (!Modifier.isPrivate(method.getModifiers()) && !method.isSynthetic()) {
                got.add(signature(method));
                Check.due("is public and of the object: " + method, method.getModifiers(), Modifier.PUBLIC);
            }
        }
        List<String> want = new ArrayList<>(List.of(METHODS));
        Collections.sort(got);
        Collections.sort(want);
        Check.dueText("the public methods", got.toString(), want.toString());
    }

    private static boolean isHidden(Member member) {
        return Modifier.isPrivate(member.getModifiers()) || member.isSynthetic();
    }

    private static void others() {
        Check.due("the class", GridPrices.class.getModifiers(), Modifier.PUBLIC | Modifier.FINAL);
        for (Field field : GridPrices.class.getDeclaredFields()) {
            Check.due("can be seen: " + field, !isHidden(field), field.getName().equals("NONE"));
        }
        Check.due("constructors", GridPrices.class.getDeclaredConstructors().length, 1);
        for (Constructor<?> constructor : GridPrices.class.getDeclaredConstructors()) {
            Check.due("constructor", constructor.getModifiers(), Modifier.PUBLIC);
            Check.due("parameters", constructor.getParameterCount(), 0);
        }
    }

    private static void nested() {
        Set<String> face = new HashSet<>();
        for (String method : METHODS) {
            face.add(method.substring(method.indexOf(' ') + 1, method.indexOf('(')));
        }
        Class<?>[] classes = GridPrices.class.getDeclaredClasses();
        Check.due("at most twelve classes", classes.length < 12, true);
        for (Class<?> inside : classes) {
            int modifiers = inside.getModifiers();
            Check.due("private and static: " + inside, Modifier.isPrivate(modifiers) && Modifier.isStatic(modifiers),
                    true);
            int fields = 0;
            for (Field field : inside.getDeclaredFields()) {
                fields += Modifier.isStatic(field.getModifiers()) ? 0 : 1;
            }
            Check.due("at most twenty fields: " + inside, fields <= 20, true);
            for (Method method : inside.getDeclaredMethods()) {
                Check.due("bears a public name: " + method, face.contains(method.getName()), false);
                Check.due("at most seven parameters: " + method, method.getParameterCount() <= 7, true);
            }
        }
    }
}
