import java.lang.reflect.Constructor;
import java.lang.reflect.Field;
import java.lang.reflect.Method;
import java.lang.reflect.Modifier;
import java.util.Arrays;
import java.util.HashSet;
import java.util.Set;

/** The public face: what the document lists, and no more. */
public final class FaceTest {
    private static final String[] FACE = {
        "int point(int,int,int,boolean) AS", "void serial(int,int,int,int) A", "void change(int,int,int,boolean) A",
        "void clock(long) A", "int advance(int) A", "void open(int) AS", "void close(int) AS",
        "int receive(int,long,int) AS", "long take(int) A", "int done(int,boolean) A", "int operation(int,int) A",
        "int look(int,int) A", "int count(int) A", "long time() "
    };

    public static void main(String[] args) {
        Class<?> post = TelecontrolPost.class;
        Check.isTrue("public and final", Modifier.isPublic(post.getModifiers()) && Modifier.isFinal(post.getModifiers()));
        Constructor<?>[] made = post.getDeclaredConstructors();
        Check.same("one constructor", made.length, 1);
        Check.isTrue("of a station", Arrays.equals(made[0].getParameterTypes(), new Class<?>[] {int.class}));
        Check.isTrue("that is public", Modifier.isPublic(made[0].getModifiers()));
        methods(post);
        for (Field field : post.getDeclaredFields()) {
            Check.isTrue("private: " + field.getName(), Modifier.isPrivate(field.getModifiers()));
            boolean isFinal = !Modifier.isStatic(field.getModifiers()) || Modifier.isFinal(field.getModifiers());
            Check.isTrue("final if it is static: " + field.getName(), isFinal);
        }
        for (Class<?> inside : post.getDeclaredClasses()) {
            Check.isTrue("static: " + inside.getName(), Modifier.isStatic(inside.getModifiers()));
            Check.isTrue("not public: " + inside.getName(), !Modifier.isPublic(inside.getModifiers()));
        }
        Check.isTrue("no more than twelve classes", post.getDeclaredClasses().length < 12);
        Check.end();
    }

    private static void methods(Class<?> post) {
        Set<String> face = new HashSet<>(Arrays.asList(FACE));
        Set<String> names = new HashSet<>();
        for (String told : FACE) {
            names.add(told.substring(told.indexOf(' ') + 1, told.indexOf('(')));
        }
        int open = 0;
        for (Method method : post.getDeclaredMethods()) {
            if (method.isSynthetic()) {
                continue;
            }
            if (Modifier.isPrivate(method.getModifiers())) {
                Check.isTrue("a private name: " + method.getName(), !names.contains(method.getName()));
            } else {
                Check.isTrue("in the face: " + told(method), face.contains(told(method)));
                Check.isTrue("public: " + told(method), Modifier.isPublic(method.getModifiers()));
                open++;
            }
        }
        Check.same("all of the face", open, FACE.length);
    }

    private static String told(Method method) {
        StringBuilder told = new StringBuilder(method.getReturnType().getName() + " " + method.getName() + "(");
        for (int i = 0; i < method.getParameterCount(); i++) {
            told.append(i == 0 ? "" : ",").append(method.getParameterTypes()[i].getName());
        }
        told.append(") ");
        for (Class<?> thrown : method.getExceptionTypes()) {
            told.append(thrown == IllegalArgumentException.class ? "A" : thrown == IllegalStateException.class ? "S" : "?");
        }
        return told.toString();
    }
}
