import java.lang.reflect.Constructor;
import java.lang.reflect.Field;
import java.lang.reflect.Method;
import java.lang.reflect.Modifier;
import java.util.Arrays;
import java.util.TreeSet;

/** The public face is the document's, and nothing else is to be seen from outside. */
final class FaceTest {
    private static final String[] FACE = {
        "int write(int,long)", "int wipe()", "int fault()", "int board()", "int cell(int)", "int gone(int)",
        "int aims(int)", "int can(int)", "int plies()", "int move(int,int)", "int pass()", "int undo()",
        "int judge(int,int)", "int wins(int)", "int keys(int)", "int keyAt(int,int)", "int odds(boolean)",
        "int parts()", "int part(int)", "int comes(int)", "int comesAt(int,int)", "int shut()",
        "int ways(int,int)", "long seed(long)", "int play(int)", "int keep(int)", "int again(int)",
        "int count(int)",
    };

    public static void main(String[] args) {
        Check check = new Check();
        TreeSet<String> got = new TreeSet<>();
        TreeSet<String> hidden = new TreeSet<>();
        for (Method method : StayWhereFell.class.getDeclaredMethods()) {
            if (Modifier.isPrivate(method.getModifiers())) {
                hidden.add(method.getName());
            } else {
                got.add(spelled(method));
                check.due(method + " is public", Modifier.isPublic(method.getModifiers()) ? 1 : 0, 1);
            }
        }
        check.due("methods " + got, got.equals(new TreeSet<>(Arrays.asList(FACE))) ? 1 : 0, 1);
        for (Method method : StayWhereFell.class.getMethods()) {
            check.due("a private method named as " + method.getName(), hidden.contains(method.getName()) ? 1 : 0, 0);
        }
        TreeSet<String> constants = new TreeSet<>();
        for (Field field : StayWhereFell.class.getDeclaredFields()) {
            if (!Modifier.isPrivate(field.getModifiers())) {
                constants.add(Modifier.toString(field.getModifiers()) + " " + field.getType() + " " + field.getName());
            }
            if (Modifier.isStatic(field.getModifiers())) {
                check.due(field + " is final", Modifier.isFinal(field.getModifiers()) ? 1 : 0, 1);
            }
        }
        TreeSet<String> want = new TreeSet<>();
        for (String name : new String[] {"UNKNOWN", "OUTSIDE", "STATE", "FULL", "NONE"}) {
            want.add("public static final int " + name);
        }
        check.due("constants " + constants, constants.equals(want) ? 1 : 0, 1);
        Constructor<?>[] made = StayWhereFell.class.getDeclaredConstructors();
        check.due("constructors", made.length, 1);
        check.due("the constructor's arguments", made[0].getParameterCount(), 0);
        int modifiers = StayWhereFell.class.getModifiers();
        check.due("the class is public and final", modifiers, Modifier.PUBLIC | Modifier.FINAL);
        check.due("UNKNOWN", StayWhereFell.UNKNOWN, -1);
        check.due("OUTSIDE", StayWhereFell.OUTSIDE, -2);
        check.due("STATE", StayWhereFell.STATE, -3);
        check.due("FULL", StayWhereFell.FULL, -4);
        check.due("NONE", StayWhereFell.NONE, -9);
        check.end("the face");
    }

    private static String spelled(Method method) {
        StringBuilder text = new StringBuilder(method.getReturnType() + " " + method.getName() + "(");
        String comma = "";
        for (Class<?> type : method.getParameterTypes()) {
            text.append(comma).append(type);
            comma = ",";
        }
        return text.append(")").toString();
    }
}
