import java.lang.reflect.Constructor;
import java.lang.reflect.Field;
import java.lang.reflect.Method;
import java.lang.reflect.Modifier;
import java.util.TreeSet;

/** The public face, and nothing else that could be seen from outside. */
public final class FaceTest {
    private static final String[] METHODS = {"int feed(int,int,int,int,int)", "boolean end(int)", "int text()",
        "int fault()", "int now(int)", "int read(int,int,int)", "int mean(int,int,int)", "int scale(int,int)",
        "int back(int,int)", "int sub(int,int,int)", "int index(int,int,int)", "int district(int,int,int)",
        "int lasts(int,int,int)", "int worst(int,int,int)", "int forecast(int,int,int)", "int keeps(int,int,int)",
        "int touches(int,int,int,int)", "int correct(int,int,int,int)", "int pass(int)", "int smooth(int)",
        "boolean window(int,int,int)", "int undo()"};

    public static void main(String[] args) {
        TreeSet<String> due = new TreeSet<>();
        TreeSet<String> names = new TreeSet<>();
        for (String method : METHODS) {
            due.add(method);
            names.add(method.substring(method.indexOf(' ') + 1, method.indexOf('(')));
        }
        for (Method method : AirIndex.class.getDeclaredMethods()) {
            StringBuilder told = new StringBuilder(method.getReturnType() + " " + method.getName() + "(");
            for (int i = 0; i < method.getParameterCount(); i++) {
                told.append(i == 0 ? "" : ",").append(method.getParameterTypes()[i]);
            }
            if (Modifier.isPrivate(method.getModifiers())) {
                Check.due("a private method bears a public name: " + method, names.contains(method.getName()), false);
            } else {
                Check.due("in the face: " + told + ")", due.remove(told + ")"), true);
                Check.due("public: " + method, Modifier.isPublic(method.getModifiers()), true);
                Check.due("no static: " + method, Modifier.isStatic(method.getModifiers()), false);
            }
        }
        Check.due("methods that are not there: " + due, due.size(), 0);
        for (Field field : AirIndex.class.getDeclaredFields()) {
            boolean isNone = field.getName().equals("NONE");
            Check.due("private: " + field, Modifier.isPrivate(field.getModifiers()), !isNone);
            Check.due("final, if static: " + field,
                Modifier.isStatic(field.getModifiers()) && !Modifier.isFinal(field.getModifiers()), false);
        }
        Check.due("NONE", AirIndex.NONE, -1);
        Constructor<?>[] constructors = AirIndex.class.getDeclaredConstructors();
        Check.due("one constructor", constructors.length, 1);
        Check.due("without parameters", constructors[0].getParameterCount(), 0);
        Check.due("public constructor", Modifier.isPublic(constructors[0].getModifiers()), true);
        Check.due("final and public class",
            AirIndex.class.getModifiers() == (Modifier.PUBLIC | Modifier.FINAL), true);
        Check.finish();
    }
}
