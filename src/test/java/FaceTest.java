import java.io.IOException;
import java.lang.reflect.Constructor;
import java.lang.reflect.Field;
import java.lang.reflect.Method;
import java.lang.reflect.Modifier;
import java.nio.file.Files;
import java.nio.file.Path;
import java.util.Set;
import java.util.TreeSet;

/** The public face: the members that the document tells, and no others. */
public final class FaceTest {
    private static final Set<String> FACE = Set.of(
        "int feed(int,int,int,int) throws [IllegalStateException]",
        "int end(int) throws [IllegalArgumentException, IllegalStateException]",
        "int read() throws [IllegalArgumentException]",
        "int fault(int) throws [IndexOutOfBoundsException]",
        "int next(int,int) throws [IndexOutOfBoundsException]",
        "int action(int,int,int) throws [IndexOutOfBoundsException]",
        "int missing(int) throws [IndexOutOfBoundsException]",
        "int reached(int,int) throws [IndexOutOfBoundsException]",
        "int message(int) throws [IndexOutOfBoundsException]",
        "int print() throws []",
        "int draw() throws []",
        "int out(int) throws [IndexOutOfBoundsException]",
        "int again() throws [IllegalStateException]",
        "int count(int) throws []");

    public static void main(String[] args) throws IOException {
        Set<String> seen = new TreeSet<>();
        Set<String> hidden = new TreeSet<>();
        for (Method method : ProtocolText.class.getDeclaredMethods()) {
            if (Modifier.isPublic(method.getModifiers())) {
                seen.add(told(method));
            } else if (!method.isSynthetic()) {
                hidden.add(method.getName());
                Check.same(method + " is private", "true", "" + Modifier.isPrivate(method.getModifiers()));
            }
        }
        Check.same("public methods", new TreeSet<>(FACE).toString(), seen.toString());
        for (String face : FACE) {
            String name = face.substring(4, face.indexOf('('));
            Check.same("a private method named " + name, "false", "" + hidden.contains(name));
        }
        for (Field field : ProtocolText.class.getDeclaredFields()) {
            int wanted = field.getName().equals("NONE") ? Modifier.PUBLIC : Modifier.PRIVATE;
            Check.same("who sees " + field, "true", "" + ((field.getModifiers() & wanted) != 0));
        }
        Constructor<?>[] made = ProtocolText.class.getDeclaredConstructors();
        Check.same("constructors", "1", "" + made.length);
        Check.same("the constructor", "public ProtocolText()", made[0].toString());
        Check.same("final", "true", "" + Modifier.isFinal(ProtocolText.class.getModifiers()));
        Check.due("NONE", -1, () -> ProtocolText.NONE);
        asTheDocumentWrites();
        Check.finish();
    }

    /** Word for word, the parameters' names too, which the compiled class does not tell. */
    private static void asTheDocumentWrites() throws IOException {
        String document = Files.readString(Path.of("../shared/DOC.md"));
        String source = Files.readString(Path.of("src/main/java/ProtocolText.java"));
        String face = document.substring(document.indexOf("```java") + 7, document.lastIndexOf("```"));
        int members = 0;
        for (String line : face.split("\n")) {
            if (line.startsWith("    public ")) {
                members++;
                String due = line.endsWith(");") || line.contains(" throws ") ? line.replace(";", " {") : line;
                Check.same(line + " stands in the source", "true", "" + source.contains("\n" + due + "\n"));
            }
        }
        Check.same("members that the document writes", "" + (FACE.size() + 2), "" + members);
    }

    private static String told(Method method) {
        StringBuilder told = new StringBuilder(method.getReturnType() + " " + method.getName() + "(");
        for (Class<?> type : method.getParameterTypes()) {
            told.append(told.charAt(told.length() - 1) == '(' ? "" : ",").append(type);
        }
        Set<String> thrown = new TreeSet<>();
        for (Class<?> type : method.getExceptionTypes()) {
            thrown.add(type.getSimpleName());
        }
        return told.append(") throws ").append(thrown).toString();
    }
}
