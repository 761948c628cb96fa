import java.lang.reflect.Constructor;
import java.lang.reflect.Field;
import java.lang.reflect.Method;
import java.lang.reflect.Modifier;
import java.util.Arrays;
import java.util.Map;
import java.util.Set;
import java.util.TreeMap;
import java.util.TreeSet;

/** The class shows the document's face and nothing else (LANGUAGE.md, rules 1, 2, 5). */
public final class FaceTest {
    private static int wrong = 0;

    private static final String[] FACE = {
        "int parish(int)", "int road(int,int,int)", "boolean shut(int,boolean)", "boolean exit(int,boolean)",
        "boolean begin(int)", "int count(int)", "int far(int,int)", "int seen(int,int)", "int vain(int,int)",
        "int guarded(int,int)", "boolean strike(int,boolean)", "int may(int,int)", "int was(int,int)",
        "int places(int,int)", "int first(int)", "int trail(int,int)", "long quarrel()", "int watch(int,int)",
        "boolean trait(int,int,int)", "int telling(int)", "int person(int,int,int)", "int fits(int)",
        "int many(int)", "int suspects(int)", "int sign(int)", "boolean end(int)", "int act()", "int repeal()",
        "int claim(int,int)", "int weight(int)", "int reward(int)", "int waive()", "int row(int)"
    };

    private static void check(boolean is, String what) {
        if (!is) {
            wrong++;
            System.out.println("not so: " + what);
        }
    }

    private static String face(Method m) {
        StringBuilder s = new StringBuilder(m.getReturnType().getName()).append(' ').append(m.getName()).append('(');
        for (int i = 0; i < m.getParameterCount(); i++) {
            s.append(i > 0 ? "," : "").append(m.getParameterTypes()[i].getName());
        }
        return s.append(')').toString();
    }

    public static void main(String[] args) {
        Class<?> c = HueAndCry.class;
        check(Modifier.isPublic(c.getModifiers()) && Modifier.isFinal(c.getModifiers()), "the class is public and final");
        checkMethods(c);
        checkFields(c);
        Constructor<?>[] made = c.getDeclaredConstructors();
        check(made.length == 1 && made[0].getParameterCount() == 0 && Modifier.isPublic(made[0].getModifiers()), "one public constructor");
        check(c.getDeclaredClasses().length < 12, "at most twelve classes");
        for (Class<?> inside : c.getDeclaredClasses()) {
            check(Modifier.isStatic(inside.getModifiers()) && !Modifier.isPublic(inside.getModifiers()), inside.getName() + " is static, not public");
            check(inside.getDeclaredFields().length <= 20, inside.getName() + " has few fields");
            for (Method m : inside.getDeclaredMethods()) {
                for (String line : FACE) {
                    check(!line.contains(" " + m.getName() + "("), inside.getName() + "." + m.getName() + " bears no public name");
                }
            }
        }
        System.out.println(wrong == 0 ? "the face is as due" : wrong + " faults in the face");
        if (wrong != 0) {
            System.exit(1);
        }
    }

    private static void checkMethods(Class<?> c) {
        Set<String> shown = new TreeSet<>();
        Map<String, Integer> names = new TreeMap<>();
        for (Method m : c.getDeclaredMethods()) {
            names.merge(m.getName(), 1, Integer::sum);
            if (!Modifier.isPrivate(m.getModifiers())) {
                check(Modifier.isPublic(m.getModifiers()) && !Modifier.isStatic(m.getModifiers()), m + " is public");
                shown.add(face(m));
            }
        }
        check(shown.equals(new TreeSet<>(Arrays.asList(FACE))), "the public methods are those of the document: " + shown);
        for (String line : FACE) {
            String name = line.substring(line.indexOf(' ') + 1, line.indexOf('('));
            check(names.getOrDefault(name, 0) == 1, name + " is the name of one method");
        }
    }

    private static void checkFields(Class<?> c) {
        int fields = 0;
        for (Field f : c.getDeclaredFields()) {
            int how = f.getModifiers();
            fields += Modifier.isStatic(how) ? 0 : 1;
            check(Modifier.isPrivate(how) || f.getName().equals("NONE") && Modifier.isPublic(how), f + " is private, or NONE");
            check(!Modifier.isStatic(how) || Modifier.isFinal(how), f + " is final if it is static");
        }
        check(fields <= 20, "few fields");
        check(HueAndCry.NONE == -1, "NONE is -1");
    }
}
