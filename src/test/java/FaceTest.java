import java.lang.reflect.Constructor;
import java.lang.reflect.Field;
import java.lang.reflect.Method;
import java.lang.reflect.Modifier;
import java.util.Set;
import java.util.TreeSet;

/** The public face: what the document lists, and nothing else that others could see. */
public final class FaceTest {
    private static final Set<String> FACE = Set.of(
            "begin(int)", "unit(int,int)", "add(int,int,int,int)", "change(int,int,int,int,int,int)", "prove()",
            "count(int)", "steps(int)", "depth(int)", "walk(long)");

    public static void main(String[] args) {
        Class<?> type = CodeProof.class;
        Check.holds("the class is public and final",
                Modifier.isPublic(type.getModifiers()) && Modifier.isFinal(type.getModifiers()));
        checkMethods(type);
        checkFields(type);
        Constructor<?>[] made = type.getDeclaredConstructors();
        Check.holds("one public constructor without parameters", made.length == 1
                && Modifier.isPublic(made[0].getModifiers()) && made[0].getParameterCount() == 0);
        Check.due("BAD", CodeProof.BAD, -1);
        Check.end();
    }

    private static void checkMethods(Class<?> type) {
        Set<String> seen = new TreeSet<>();
        for (Method method : type.getDeclaredMethods()) {
            if (!Modifier.isPrivate(method.getModifiers()) && !method.isSynthetic()) {
                StringBuilder text = new StringBuilder(method.getName()).append('(');
                for (Class<?> parameter : method.getParameterTypes()) {
                    text.append(text.charAt(text.length() - 1) == '(' ? "" : ",").append(parameter.getName());
                }
                seen.add(text.append(')').toString());
                Check.holds(method + " is public and answers an int", Modifier.isPublic(method.getModifiers())
                        && !Modifier.isStatic(method.getModifiers()) && method.getReturnType() == int.class);
            }
        }
        Check.holds("the methods are those of the document: " + seen, seen.equals(new TreeSet<>(FACE)));
    }

    private static void checkFields(Class<?> type) {
        for (Field field : type.getDeclaredFields()) {
            int modifiers = field.getModifiers();
            boolean isFace = field.getName().equals("BAD") && Modifier.isPublic(modifiers);
            Check.holds(field + " is BAD or private", isFace || Modifier.isPrivate(modifiers));
            Check.holds(field + " is final", Modifier.isFinal(modifiers));
        }
    }
}
