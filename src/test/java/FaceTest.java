import java.lang.reflect.Constructor;
import java.lang.reflect.Field;
import java.lang.reflect.Method;
import java.lang.reflect.Modifier;
import java.util.Set;
import java.util.TreeSet;

/** The face is the document's and nothing more (LANGUAGE.md, rule 1). */
public final class FaceTest {
    private static final Set<String> METHODS = Set.of(
        "int account(int,int)", "int days(int)", "int post(int,int,int,int)", "int feed(long,long,long)",
        "int text(int)", "int balance(int,int,int)", "int interest(int,int,int)", "int may(int,int,int)",
        "int draw(int,int,int,int)", "boolean notice(int,int)", "int write(int,int,int)", "int compare(int,int)",
        "int settle(int)", "int night(int,int)", "int coin(int)", "int holding(int,int)",
        "boolean need(int,int)", "int best()", "int sold(int)", "int count(int)");

    public static void main(String[] args) throws Exception {
        Set<String> found = new TreeSet<>();
        for (Method method : PennyBank.class.getDeclaredMethods()) {
            if (!Modifier.isPrivate(method.getModifiers()) && !method.isSynthetic()) {
                Check.due(method + " is public", Modifier.isPublic(method.getModifiers()), true);
                found.add(told(method));
            }
        }
        Check.due("the methods " + found, found.equals(METHODS), true);
        for (Field field : PennyBank.class.getDeclaredFields()) {
            boolean isNone = field.getName().equals("NONE");
            Check.due(field + " is private", Modifier.isPrivate(field.getModifiers()), !isNone);
        }
        Check.due("NONE", PennyBank.NONE, -1);
        Check.due("NONE is a constant", PennyBank.class.getField("NONE").getModifiers(),
            Modifier.PUBLIC | Modifier.STATIC | Modifier.FINAL);
        Constructor<?>[] constructors = PennyBank.class.getDeclaredConstructors();
        Check.due("constructors", constructors.length, 1);
        Check.due("parameters of the constructor", constructors[0].getParameterCount(), 0);
        Check.due("the class", PennyBank.class.getModifiers(), Modifier.PUBLIC | Modifier.FINAL);
        Check.end();
    }

    private static String told(Method method) {
        StringBuilder text = new StringBuilder(method.getReturnType().getName());
        text.append(' ').append(method.getName()).append('(');
        for (Class<?> type : method.getParameterTypes()) {
            text.append(text.charAt(text.length() - 1) == '(' ? "" : ",").append(type.getName());
        }
        return text.append(')').toString();
    }
}
