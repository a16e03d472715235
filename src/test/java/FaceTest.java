import java.lang.reflect.Constructor;
import java.lang.reflect.Field;
import java.lang.reflect.Method;
import java.lang.reflect.Modifier;
import java.util.ArrayList;
import java.util.Arrays;
import java.util.List;
import java.util.Set;
import java.util.TreeSet;

/** The public face is the document's, and nothing beside it can be seen. */
public final class FaceTest {
    private static final String[] FACE = {"int feed(int,int,int,int,int)", "int text(int)", "int fault(int)",
        "int named(int,int)", "int bottle(int,int)", "int man(int,int)", "int need(int,int)", "int bin(int)",
        "long law(int,int)", "boolean rack(int,int)", "int seal(int)", "int open(int)", "int go(int)",
        "int ahead(int,int,int)", "int firstOff(int)", "int chain(int)", "int racking(int,int)", "int serve(int)",
        "int served()", "int pour(int,int)", "int ripe(int,int)", "int dowry(int,int)", "int ring()",
        "int rests(int,int)", "int rest(int,int,int)", "long lasts(int,int,int)", "int see(int,int,boolean)",
        "int out(int)", "boolean known(int)", "int corks(int)", "int chance(int,int,int)", "int tried(int,int,int)",
        "int undo()", "int keep()", "int back()", "int count(int)"};

    public static void main(String[] args) {
        Class<?> face = TemperCellar.class;
        Due.due("NONE", TemperCellar.NONE, -1);
        Due.due("public and final", face.getModifiers(), Modifier.PUBLIC | Modifier.FINAL);
        Due.due("constructors", Arrays.stream(face.getDeclaredConstructors()).map(Constructor::toString).toList()
                .equals(List.of("public TemperCellar()")), true);

        Set<String> seen = new TreeSet<>();
        Set<String> names = new TreeSet<>();
        List<Method> hidden = new ArrayList<>();
        for (Method method : face.getDeclaredMethods()) {
            if (Modifier.isPrivate(method.getModifiers())) {
                hidden.add(method);
            } else {
                Due.due(method + " is just public", method.getModifiers(), Modifier.PUBLIC);
                seen.add(line(method));
                names.add(method.getName());
            }
        }
        Set<String> want = new TreeSet<>(Arrays.asList(FACE));
        Due.due("methods " + seen + ", due are " + want, seen.equals(want), true);
        for (Field field : face.getDeclaredFields()) {
            boolean isNone = field.getName().equals("NONE");
            Due.due(field + " is private", Modifier.isPrivate(field.getModifiers()), !isNone);
            Due.due(field + " is constant, if static", !Modifier.isStatic(field.getModifiers())
                    || Modifier.isFinal(field.getModifiers()), true);
        }
        for (Class<?> inside : face.getDeclaredClasses()) {
            Due.due(inside + " is static", Modifier.isStatic(inside.getModifiers()), true);
            Due.due(inside + " is not public", Modifier.isPublic(inside.getModifiers()), false);
            Due.due(inside + " has some twenty fields", inside.getDeclaredFields().length <= 20, true);
            hidden.addAll(Arrays.asList(inside.getDeclaredMethods()));
        }
        for (Method method : hidden) {
            Due.due(method + " has a name of its own", names.contains(method.getName()), false);
            Due.due(method + " takes seven at most", method.getParameterCount() <= 7, true);
        }
        Due.end();
    }

    private static String line(Method method) {
        List<String> types = Arrays.stream(method.getParameterTypes()).map(Class::getName).toList();
        return method.getReturnType().getName() + " " + method.getName() + "(" + String.join(",", types) + ")";
    }
}
