import java.lang.reflect.Constructor;
import java.lang.reflect.Field;
import java.lang.reflect.Method;
import java.lang.reflect.Modifier;
import java.util.Set;
import java.util.TreeSet;

/** The public face: the document's members, no others, and no private name that is a public one. */
public final class FaceTest {
    private static final String[] METHODS = {
        "int setRate(int)", "int setFee(int)", "int pass(int)", "int begin(int)",
        "int addItem(int,int,int,int,int)", "int end(int)", "int inspect(int,int)", "int claim(int,int)",
        "int claimRent(int,int)", "int put(int)", "int answer(int,boolean)", "int readAnswers()",
        "int setEvidence(int,int,int)", "int close(int)", "int type(char)", "int clearText()", "int undo()",
        "int keep()", "int restore()", "float rate()", "int tenancy(int,int)", "int item(int,int)",
        "float rest(int)", "float weight(int)", "int reason(int)", "int outcome(int,int)", "int mostIn(int,int)",
        "int count(int)"};

    public static void main(String[] args) {
        Check.due("UNKNOWN", TenancyDeposits.UNKNOWN, -1);
        Check.due("BAD_VALUE", TenancyDeposits.BAD_VALUE, -2);
        Check.due("FULL", TenancyDeposits.FULL, -3);
        Check.due("NOT_POSSIBLE", TenancyDeposits.NOT_POSSIBLE, -4);
        Check.due("NONE", TenancyDeposits.NONE, -5);
        Class<?> face = TenancyDeposits.class;
        Check.dueTrue("the class is public and final", Modifier.isFinal(face.getModifiers())
            && Modifier.isPublic(face.getModifiers()) && face.getPackageName().isEmpty());
        methods(face);
        fields(face);
        Constructor<?>[] constructors = face.getDeclaredConstructors();
        Check.due("constructors", constructors.length, 1);
        Check.dueTrue("the constructor is public", Modifier.isPublic(constructors[0].getModifiers()));
        for (Class<?> inside : face.getDeclaredClasses()) {
            inside(inside);
        }
        Check.end("FaceTest");
    }

    private static void methods(Class<?> face) {
        Set<String> wanted = new TreeSet<>(Set.of(METHODS));
        Set<String> found = new TreeSet<>();
        Set<String> names = new TreeSet<>();
        for (Method method : face.getDeclaredMethods()) {
            if (Modifier.isPublic(method.getModifiers())) {
                found.add(written(method));
                names.add(method.getName());
            }
        }
        Check.dueTrue("public methods " + found, found.equals(wanted));
        for (Method method : face.getDeclaredMethods()) {
            if (!Modifier.isPublic(method.getModifiers())) {
                Check.dueTrue(method.getName() + " is private", Modifier.isPrivate(method.getModifiers()));
                Check.dueTrue(method.getName() + " is no public name", !names.contains(method.getName()));
            }
        }
    }

    private static String written(Method method) {
        StringBuilder text = new StringBuilder();
        text.append(method.getReturnType()).append(' ').append(method.getName()).append('(');
        for (Class<?> type : method.getParameterTypes()) {
            text.append(text.charAt(text.length() - 1) == '(' ? "" : ",").append(type);
        }
        return text.append(')').toString();
    }

    private static void fields(Class<?> face) {
        Set<String> constants = Set.of("UNKNOWN", "BAD_VALUE", "FULL", "NOT_POSSIBLE", "NONE");
        int found = 0;
        for (Field field : face.getDeclaredFields()) {
            int modifiers = field.getModifiers();
            if (Modifier.isPublic(modifiers)) {
                found++;
                Check.dueTrue(field.getName() + " is a constant of the document", constants.contains(field.getName())
                    && field.getType() == int.class);
            } else {
                Check.dueTrue(field.getName() + " is private", Modifier.isPrivate(modifiers));
            }
            noStaticState(field);
        }
        Check.due("public constants", found, 5);
    }

    private static void inside(Class<?> inside) {
        Check.dueTrue(inside + " is static", Modifier.isStatic(inside.getModifiers()));
        Check.dueTrue(inside + " is not public", !Modifier.isPublic(inside.getModifiers())
            && !Modifier.isProtected(inside.getModifiers()));
        for (Field field : inside.getDeclaredFields()) {
            noStaticState(field);
        }
    }

    private static void noStaticState(Field field) {
        if (Modifier.isStatic(field.getModifiers())) {
            Check.dueTrue(field.getName() + " is final", Modifier.isFinal(field.getModifiers()));
            Check.dueTrue(field.getName() + " is an int", field.getType() == int.class);
        }
    }
}
