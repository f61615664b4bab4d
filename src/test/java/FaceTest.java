import java.lang.reflect.Constructor;
import java.lang.reflect.Field;
import java.lang.reflect.Method;
import java.lang.reflect.Modifier;
import java.util.Set;
import java.util.TreeSet;

/** "The public face" of the document, and what LANGUAGE.md asks of it and of the classes inside. */
public final class FaceTest {
    private static final String FACE = "account/1 append/1 author/0 authorOf/2 character/0 characterOf/2 darkest/1"
        + " dead/1 deadAgain/1 deathOf/3 die/2 guilty/3 isWell/0 leave/1 motive/3 pages/2 ranked/2 read/0 refusal/1"
        + " restore/0 rise/2 save/0 seat/2 share/0 sign/1 strike/1 suspect/2 suspectAgain/2 swear/2 tellChapter/1"
        + " tellCharacter/1 tellJury/0 trial/3 undo/0 would/5 write/2";

    public static void main(String[] args) throws Exception {
        methods();
        constantsAndFields();
        classesInside();
        Check.close("FaceTest");
    }

    private static void methods() throws Exception {
        Set<String> faces = new TreeSet<>();
        Set<String> names = new TreeSet<>();
        Set<String> others = new TreeSet<>();
        for (Method m : StoryCoroner.class.getDeclaredMethods()) {
            if (Modifier.isPublic(m.getModifiers())) {
                faces.add(m.getName() + "/" + m.getParameterCount());
                names.add(m.getName());
                Check.due(m + " is static", Modifier.isStatic(m.getModifiers()) ? 1 : 0, 0);
                Check.due(m + " answers", m.getReturnType().getName(), "int");
                Check.due(m + " declares exceptions", m.getExceptionTypes().length, 0);
                for (Class<?> parameter : m.getParameterTypes()) {
                    Check.due(m + " takes", parameter.getName(), "int");
                }
            } else if (!m.isSynthetic()) {
                Check.due(m + " is private", Modifier.isPrivate(m.getModifiers()) ? 1 : 0, 1);
                others.add(m.getName());
            }
        }
        Check.due("the public methods", String.join(" ", faces), FACE);
        others.retainAll(names);
        Check.due("private methods with public names", String.join(" ", others), "");
    }

    private static void constantsAndFields() throws Exception {
        Check.due("NONE", StoryCoroner.NONE, -1);
        Check.due("BAD", StoryCoroner.BAD, -2);
        Check.due("REFUSED", StoryCoroner.REFUSED, -3);
        Check.due("NOTHING", StoryCoroner.NOTHING, -4);
        Set<String> shown = new TreeSet<>();
        for (Field f : StoryCoroner.class.getDeclaredFields()) {
            if (!Modifier.isPrivate(f.getModifiers())) {
                shown.add(f.getName());
            }
            if (Modifier.isStatic(f.getModifiers())) {
                Check.due(f + " is final", Modifier.isFinal(f.getModifiers()) ? 1 : 0, 1);
            }
        }
        Check.due("the constants", String.join(" ", shown), "BAD NONE NOTHING REFUSED");
        Check.due("the class is public and final", StoryCoroner.class.getModifiers(), Modifier.PUBLIC | Modifier.FINAL);
        Constructor<?>[] constructors = StoryCoroner.class.getDeclaredConstructors();
        Check.due("constructors", constructors.length, 1);
        Check.due("it is public", constructors[0].getModifiers(), Modifier.PUBLIC);
        Check.due("its parameters", constructors[0].getParameterCount(), 0);
    }

    private static void classesInside() {
        Set<String> shunned = new TreeSet<>(Set.of("equals", "hashCode", "toString"));
        for (Method m : StoryCoroner.class.getMethods()) {
            shunned.add(m.getName());
        }
        Class<?>[] inside = StoryCoroner.class.getDeclaredClasses();
        Check.due("at most twelve classes", inside.length + 1 <= 12 ? 1 : 0, 1);
        for (Class<?> c : inside) {
            Check.due(c + " is static", Modifier.isStatic(c.getModifiers()) ? 1 : 0, 1);
            Check.due(c + " is private", Modifier.isPrivate(c.getModifiers()) ? 1 : 0, 1);
            for (Field f : c.getDeclaredFields()) {
                boolean isLoose = Modifier.isStatic(f.getModifiers()) && !Modifier.isFinal(f.getModifiers());
                Check.due(f + " is static and not final", isLoose ? 1 : 0, 0);
            }
            for (Method m : c.getDeclaredMethods()) {
                Check.due(m + " has a name of the face, or of every object", shunned.contains(m.getName()) ? 1 : 0, 0);
            }
        }
    }
}
