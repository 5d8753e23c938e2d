import java.lang.reflect.Constructor;
import java.lang.reflect.Field;
import java.lang.reflect.Method;
import java.lang.reflect.Modifier;
import java.util.Set;
import java.util.TreeSet;

/** Promise 1, and the public face. */
public final class NewObjectTest {
    private static final Set<String> FACE = new TreeSet<>(Set.of(
        "boolean cross(int,int,int,int,boolean)", "int drop()", "int take(int)", "boolean letter(int)",
        "boolean braid(int)", "int count(int)", "int end(int,int)", "long first(int)", "long second(int)",
        "boolean twist(int,int)", "boolean untwist(int)", "boolean poke(int,boolean,int,boolean)",
        "boolean unpoke(int,int)", "boolean slide(int,int,int)"));

    public static void main(String[] args) throws NoSuchFieldException {
        newDiagram();
        emptyDraftAndWord();
        objectsAreApart();
        face();
        none();
        Due.finish();
    }

    private static void newDiagram() {
        LinkDiagram link = new LinkDiagram();
        Due.same("NONE", LinkDiagram.NONE, -100);
        Due.counts(link, 0, 1, 1, 0, 0, 0);
        Due.same("end(0, 0)", link.end(0, 0), LinkDiagram.NONE);
        Due.first(link, 0, 1);
        Due.second(link, 1);
    }

    private static void emptyDraftAndWord() {
        LinkDiagram link = new LinkDiagram();
        Due.same("drop()", link.drop(), 0);
        Due.same("take(0)", link.take(0), 1);
        Due.yes("braid(1)", link.braid(1));
        Due.counts(link, 0, 1, 1, 0, 0, 0);
    }

    private static void objectsAreApart() {
        LinkDiagram one = Due.braid(2, 1, 1, 1);
        LinkDiagram two = new LinkDiagram();
        Due.counts(two, 0, 1, 1, 0, 0, 0);
        Due.counts(one, 3, 0, 1, 3, 5, 1);
    }

    private static void face() {
        Set<String> found = new TreeSet<>();
        for (Method method : LinkDiagram.class.getDeclaredMethods()) {
            if (!Modifier.isPrivate(method.getModifiers())) {
                found.add(told(method));
                Due.same("modifiers of " + method.getName(), method.getModifiers(), Modifier.PUBLIC);
            }
        }
        Due.yes("the methods " + found, found.equals(FACE));
        for (Field field : LinkDiagram.class.getDeclaredFields()) {
            boolean isPrivate = Modifier.isPrivate(field.getModifiers());
            Due.yes("the field " + field.getName(), isPrivate || field.getName().equals("NONE"));
        }
        Constructor<?>[] constructors = LinkDiagram.class.getDeclaredConstructors();
        Due.same("constructors", constructors.length, 1);
        Due.same("parameters", constructors[0].getParameterCount(), 0);
        Due.same("modifiers of the constructor", constructors[0].getModifiers(), Modifier.PUBLIC);
        Due.same("modifiers of the class", LinkDiagram.class.getModifiers(), Modifier.PUBLIC | Modifier.FINAL);
    }

    // "public static final int NONE = -100;"
    private static void none() throws NoSuchFieldException {
        Field none = LinkDiagram.class.getDeclaredField("NONE");
        Due.same("modifiers of NONE", none.getModifiers(), Modifier.PUBLIC | Modifier.STATIC | Modifier.FINAL);
        Due.yes("the type of NONE", none.getType() == int.class);
    }

    private static String told(Method method) {
        StringBuilder text = new StringBuilder();
        text.append(method.getReturnType().getName()).append(' ').append(method.getName()).append('(');
        for (int i = 0; i < method.getParameterCount(); i++) {
            text.append(i == 0 ? "" : ",").append(method.getParameterTypes()[i].getName());
        }
        return text.append(')').toString();
    }
}
