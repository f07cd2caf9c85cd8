import java.lang.reflect.Constructor;
import java.lang.reflect.Field;
import java.lang.reflect.Method;
import java.lang.reflect.Modifier;
import java.util.Set;
import java.util.TreeSet;

/** The public face: the members that the document tells, and no others. */
public final class FaceTest {
    private static final Set<String> FACE = Set.of(
        "int feed(int,int,int,int)", "int end(int)", "int read()", "int fault(int)", "int next(int,int)",
        "int action(int,int,int)", "int missing(int)", "int reached(int,int)", "int message(int)", "int print()",
        "int draw()", "int out(int)", "int again()", "int count(int)");

    public static void main(String[] args) {
        Set<String> seen = new TreeSet<>();
        Set<String> hidden = new TreeSet<>();
        for (Method method : ProtocolText.class.getDeclaredMethods()) {
            if (Modifier.isPublic(method.getModifiers())) {
                seen.add(told(method));
            } else if (!method.isSynthetic()) {
                hidden.add(method.getName());
                Check.same(method + " is private", "true", "" + Modifier.isPrivate(method.getModifiers()));
            }
        }
        Check.same("public methods", new TreeSet<>(FACE).toString(), seen.toString());
        for (String face : FACE) {
            String name = face.substring(4, face.indexOf('('));
            Check.same("a private method named " + name, "false", "" + hidden.contains(name));
        }
        for (Field field : ProtocolText.class.getDeclaredFields()) {
            int wanted = field.getName().equals("NONE") ? Modifier.PUBLIC : Modifier.PRIVATE;
            Check.same("who sees " + field, "true", "" + ((field.getModifiers() & wanted) != 0));
        }
        Constructor<?>[] made = ProtocolText.class.getDeclaredConstructors();
        Check.same("constructors", "1", "" + made.length);
        Check.same("the constructor", "public ProtocolText()", made[0].toString());
        Check.same("final", "true", "" + Modifier.isFinal(ProtocolText.class.getModifiers()));
        Check.due("NONE", -1, () -> ProtocolText.NONE);
        Check.finish();
    }

    private static String told(Method method) {
        StringBuilder told = new StringBuilder(method.getReturnType() + " " + method.getName() + "(");
        for (Class<?> type : method.getParameterTypes()) {
            told.append(told.charAt(told.length() - 1) == '(' ? "" : ",").append(type);
        }
        return told.append(")").toString();
    }
}
