import java.lang.reflect.Constructor;
import java.lang.reflect.Field;
import java.lang.reflect.Method;
import java.lang.reflect.Modifier;
import java.util.Arrays;
import java.util.List;
import java.util.Set;
import java.util.TreeSet;

/** The class has the document's face and nothing else that can be seen from outside. */
public final class FaceTest {
    private static final String[] METHODS = {
        "void any(int,long)", "void constant(int,long)", "void between(int,boolean,long,long,long)",
        "void pattern(int,long,long,long)", "void operate(int,int,int,int,int)", "void cut(int,int,int)",
        "void extend(int,int,int)", "void swap(int,int,int)", "void join(int,int,int,boolean)",
        "void widen(int,int,int)", "boolean branch(int,int,int)", "int decided(int,int,int)",
        "boolean within(int,int)", "boolean has(int,long)", "long least(int,boolean)",
        "long greatest(int,boolean)", "long unknown(int)", "long witness(int)", "int strays()"};

    private static final List<String> NOT_AS_SAID =
            List.of("between", "pattern", "operate", "cut", "extend", "swap", "branch", "decided");

    private static int wrong = 0;

    private static void check(String what, boolean ok) {
        if (!ok) {
            wrong++;
            System.out.println("face: " + what);
        }
    }

    private static String told(Method method) {
        StringBuilder text = new StringBuilder();
        text.append(method.getReturnType().getName()).append(' ').append(method.getName()).append('(');
        Class<?>[] types = method.getParameterTypes();
        for (int k = 0; k < types.length; k++) {
            text.append(k == 0 ? "" : ",").append(types[k].getName());
        }
        return text.append(')').toString();
    }

    private static List<Class<?>> exceptions(String name) {
        if (name.equals("strays")) {
            return List.of();
        }
        return NOT_AS_SAID.contains(name) ? List.of(IndexOutOfBoundsException.class, IllegalArgumentException.class)
                : List.of(IndexOutOfBoundsException.class);
    }

    public static void main(String[] args) throws NoSuchFieldException {
        Class<ValueSieve> face = ValueSieve.class;
        check("the class is public and final",
                Modifier.isPublic(face.getModifiers()) && Modifier.isFinal(face.getModifiers()));
        Set<String> open = new TreeSet<>();
        Set<String> openNames = new TreeSet<>();
        for (Method method : face.getDeclaredMethods()) {
            if (!Modifier.isPrivate(method.getModifiers())) {
                open.add(told(method));
                openNames.add(method.getName());
                check(method + " is public and not static",
                        Modifier.isPublic(method.getModifiers()) && !Modifier.isStatic(method.getModifiers()));
            }
        }
        check("the methods are those of the document, not " + open,
                open.equals(new TreeSet<>(Arrays.asList(METHODS))));
        for (Method method : face.getDeclaredMethods()) {
            check("a private method bears the public name " + method.getName(),
                    !Modifier.isPrivate(method.getModifiers()) || !openNames.contains(method.getName()));
        }
        for (Class<?> inside : face.getDeclaredClasses()) {
            check(inside + " is static and not public", Modifier.isStatic(inside.getModifiers())
                    && !Modifier.isPublic(inside.getModifiers()) && !Modifier.isProtected(inside.getModifiers()));
        }
        for (Field field : face.getDeclaredFields()) {
            boolean none = field.getName().equals("NONE");
            check("only NONE is open, not " + field.getName(), none != Modifier.isPrivate(field.getModifiers()));
            check("static fields are final: " + field.getName(),
                    !Modifier.isStatic(field.getModifiers()) || Modifier.isFinal(field.getModifiers()));
        }
        Constructor<?>[] makers = face.getDeclaredConstructors();
        check("there is one public constructor without arguments", makers.length == 1
                && makers[0].getParameterCount() == 0 && Modifier.isPublic(makers[0].getModifiers()));
        check("NONE is -1", ValueSieve.NONE == -1);
        Field none = face.getDeclaredField("NONE");
        check("NONE is a public constant of type int", none.getType() == int.class
                && Modifier.isPublic(none.getModifiers()) && Modifier.isStatic(none.getModifiers())
                && Modifier.isFinal(none.getModifiers()));
        for (Method method : face.getDeclaredMethods()) {
            if (Modifier.isPublic(method.getModifiers())) {
                check(method.getName() + " names the exceptions that the document names",
                        Arrays.asList(method.getExceptionTypes()).equals(exceptions(method.getName())));
            }
        }
        if (wrong != 0) {
            System.exit(1);
        }
    }
}
