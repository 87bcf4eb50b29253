import java.lang.reflect.Constructor;
import java.lang.reflect.Field;
import java.lang.reflect.Method;
import java.lang.reflect.Modifier;
import java.util.HashSet;
import java.util.Set;
import java.util.TreeSet;

/** The class has the document's face and nothing else that others can see. */
public final class FaceTest {
    private static final String[] FACE = {
        "int feed(int,int,int,int,int)", "boolean end(int)", "int fault(int)", "int text(int)", "int oven(int)",
        "int spot(int,int) NoSuchElementException", "int dish(int,int)", "boolean law(int)", "int cook(int,int)",
        "int stir()", "boolean turn(boolean)", "int move(int,int)", "int eat(int)", "boolean stirs(int)",
        "int habits(int,long)", "int status(int)", "int undo()", "int log(int,int)", "int span(int)",
        "int soonest(int)", "int without()", "int heats(int,int,int)", "int place(int,int)", "int turning(int)",
        "int runs(int,int)", "int tell(int,boolean)", "int weak(int,int)", "int best(int)", "int once(int,int)",
        "int order(int)", "int together(int)", "int bite()", "int odds(int,int)", "int set(int,int,boolean)",
        "int how(int)", "int mean()", "int hottest()", "int rim()", "int lump()", "int joined(int)",
        "int next(int,int)", "int image()", "int back()", "int count(int)"};
    private static int wrong = 0;

    public static void main(String[] args) {
        Class<?> face = ColdMiddle.class;
        check(Modifier.isPublic(face.getModifiers()) && Modifier.isFinal(face.getModifiers()), "public and final");
        Set<String> due = new TreeSet<>(Set.of(FACE));
        Set<String> found = new TreeSet<>();
        Set<String> names = new HashSet<>();
        for (Method method : face.getDeclaredMethods()) {
            if (!Modifier.isPrivate(method.getModifiers())) {
                check(Modifier.isPublic(method.getModifiers()), method.getName() + " is public");
                found.add(signature(method));
                names.add(method.getName());
            }
        }
        check(found.equals(due), "the methods: " + found);
        privateNames(face, names);
        for (Class<?> inside : face.getDeclaredClasses()) {
            check(Modifier.isStatic(inside.getModifiers()), inside + " is static");
            check(!Modifier.isPublic(inside.getModifiers()), inside + " is not public");
            privateNames(inside, names);
            staticFields(inside);
        }
        check(face.getDeclaredClasses().length <= 12, "some twelve classes");
        staticFields(face);
        for (Field field : face.getDeclaredFields()) {
            boolean isFace = field.getName().equals("NONE") || field.getName().equals("HIDDEN");
            check(isFace ? Modifier.isPublic(field.getModifiers()) : Modifier.isPrivate(field.getModifiers()),
                    field + " is as the document has it");
        }
        for (Constructor<?> constructor : face.getDeclaredConstructors()) {
            check(Modifier.isPublic(constructor.getModifiers()) && constructor.getParameterCount() == 0, "constructor");
        }
        check(ColdMiddle.NONE == -1 && ColdMiddle.HIDDEN == -1000000, "the constants");
        if (wrong > 0) {
            System.exit(1);
        }
    }

    private static void check(boolean is, String what) {
        if (!is) {
            wrong++;
            System.out.println("not so: " + what);
        }
    }

    private static String signature(Method method) {
        StringBuilder s = new StringBuilder(method.getReturnType().getSimpleName() + " " + method.getName() + "(");
        for (int i = 0; i < method.getParameterCount(); i++) {
            s.append(i == 0 ? "" : ",").append(method.getParameterTypes()[i].getSimpleName());
        }
        s.append(")");
        for (Class<?> thrown : method.getExceptionTypes()) {
            s.append(" ").append(thrown.getSimpleName());
        }
        return s.toString();
    }

    private static void privateNames(Class<?> inside, Set<String> names) {
        for (Method method : inside.getDeclaredMethods()) {
            boolean isFace = inside == ColdMiddle.class && Modifier.isPublic(method.getModifiers());
            check(isFace || !names.contains(method.getName()), inside + " has a " + method.getName() + " of its own");
            check(method.getParameterCount() <= 7, method + " has seven parameters at most");
        }
    }

    private static void staticFields(Class<?> inside) {
        int own = 0;
        for (Field field : inside.getDeclaredFields()) {
            boolean isStatic = Modifier.isStatic(field.getModifiers());
            check(!isStatic || Modifier.isFinal(field.getModifiers()), field + " is final");
            own += isStatic ? 0 : 1;
        }
        check(own <= 20, inside + " has some twenty fields");
    }
}
