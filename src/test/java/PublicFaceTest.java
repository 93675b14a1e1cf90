import java.lang.reflect.Constructor;
import java.lang.reflect.Field;
import java.lang.reflect.Method;
import java.lang.reflect.Modifier;
import java.util.Arrays;
import java.util.TreeSet;

/** The class has just the constant, constructor and methods of the document's public face. */
public final class PublicFaceTest {
    private static final String[] METHODS = {
        "int mirror(int,int)", "boolean sun(int,int,int,int)", "boolean limit(int,int)",
        "boolean wind(int,int)", "boolean price(int,int)", "boolean dust(int)",
        "int shaded(int,int,boolean)", "int power(int,int)", "int stowed(int)", "int soil(int)",
        "int wash(int)", "int aim(int)", "int aimed(int)", "int face(int)", "int best(int)",
        "int comes(int)", "int plan()", "int runs(int)", "int step(boolean)", "int earned()",
        "int shot(int,int,int)", "int forget()", "int agree()", "int stuck(int)", "int unsure()",
        "int count(int)", "int trouble()"};

    public static void main(String[] args) {
        Due due = new Due("PublicFaceTest");
        int mods = MirrorTower.class.getModifiers();
        due.is("public and final", Modifier.isPublic(mods) && Modifier.isFinal(mods), true);
        due.is("NONE", MirrorTower.NONE, -1);
        TreeSet<String> wanted = new TreeSet<>(Arrays.asList(METHODS));
        TreeSet<String> names = new TreeSet<>();
        for (String method : METHODS) {
            names.add(method.replaceAll("^\\w+ (\\w+)\\(.*", "$1"));
        }
        for (Method method : MirrorTower.class.getDeclaredMethods()) {
            if (Modifier.isPrivate(method.getModifiers())) {
                due.is("a private method named " + method.getName(),
                        names.contains(method.getName()), false);
            } else {
                String text = textOf(method);
                due.is(text + " is in the document", wanted.remove(text), true);
                due.is(text + " is public", Modifier.isPublic(method.getModifiers())
                        && !Modifier.isStatic(method.getModifiers()), true);
            }
        }
        due.is("methods missing: " + wanted, wanted.size(), 0);
        Constructor<?>[] makers = MirrorTower.class.getDeclaredConstructors();
        due.is("constructors", makers.length, 1);
        due.is("public constructor without parameters",
                Modifier.isPublic(makers[0].getModifiers()) && makers[0].getParameterCount() == 0,
                true);
        for (Field field : MirrorTower.class.getDeclaredFields()) {
            due.is(field.getName() + " is private",
                    Modifier.isPrivate(field.getModifiers()) || field.getName().equals("NONE"), true);
        }
        due.end();
    }

    private static String textOf(Method method) {
        StringBuilder text = new StringBuilder();
        for (Class<?> type : method.getParameterTypes()) {
            text.append(text.length() == 0 ? "" : ",").append(type.getName());
        }
        return method.getReturnType().getName() + " " + method.getName() + "(" + text + ")";
    }
}
