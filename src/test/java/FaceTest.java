import java.lang.reflect.Constructor;
import java.lang.reflect.Field;
import java.lang.reflect.Method;
import java.lang.reflect.Modifier;
import java.util.Arrays;
import java.util.Set;
import java.util.TreeSet;

/** The public face: what the document lists is there, and nothing else can be seen. */
public final class FaceTest {
    private static final String[] METHODS = {
        "int reset(int,int,int)", "int allocate(int)", "int write(int,int,int)",
        "int setRoot(int,int)", "int minorCollection()", "int startMajor()",
        "int stepMajor(int)", "int exists(int)", "int isOld(int)", "int age(int)",
        "int reference(int,int)", "int root(int)", "int colour(int)", "int reachableCount()",
        "int youngCount()", "int youngObject(int)", "int youngWords()", "int oldCount()",
        "int oldWords()", "int rememberedCount()", "int remembered(int)", "int phase()",
        "int greyCount()", "int promotionFailures()", "int majorCount()", "int describe(int)",
        "int outputByte(int)", "int append(int)", "int clearText()", "int runScript()",
        "int errorCount(int)", "long digest()"};
    private static final String[] CONSTANTS = {
        "NULL=-1", "INVALID=-2", "REJECTED=-3", "FULL=-4", "NONE=-5", "IDLE=0", "MARKING=1",
        "SWEEPING=2", "WHITE=0", "GREY=1", "BLACK=2"};

    public static void main(String[] args) throws IllegalAccessException {
        Due due = new Due("FaceTest");
        Class<?> face = GenerationalHeap.class;
        due.holds("the class is public and final",
            Modifier.isPublic(face.getModifiers()) && Modifier.isFinal(face.getModifiers()));
        due.is("methods", seenMethods(face).toString(), sorted(METHODS).toString());
        due.is("constants", seenConstants(face).toString(), sorted(CONSTANTS).toString());
        Constructor<?>[] constructors = face.getDeclaredConstructors();
        due.is("constructors", constructors.length, 1);
        due.holds("the constructor is public and takes nothing",
            Modifier.isPublic(constructors[0].getModifiers())
                && constructors[0].getParameterCount() == 0);
        due.holds("no private method bears a public one's name", namesAreApart(face));
        due.end();
    }

    private static Set<String> sorted(String[] texts) {
        return new TreeSet<>(Arrays.asList(texts));
    }

    private static Set<String> seenMethods(Class<?> face) {
        Set<String> seen = new TreeSet<>();
        for (Method method : face.getDeclaredMethods()) {
            if (Modifier.isPrivate(method.getModifiers()) || method.isSynthetic()) {
                continue;
            }
            StringBuilder line = new StringBuilder();
            for (Class<?> parameter : method.getParameterTypes()) {
                line.append(line.length() == 0 ? "" : ",").append(parameter.getName());
            }
            String kind = Modifier.isPublic(method.getModifiers())
                && !Modifier.isStatic(method.getModifiers()) ? "" : "not public: ";
            seen.add(kind + method.getReturnType().getName() + " " + method.getName()
                + "(" + line + ")");
        }
        return seen;
    }

    private static Set<String> seenConstants(Class<?> face) throws IllegalAccessException {
        Set<String> seen = new TreeSet<>();
        for (Field field : face.getDeclaredFields()) {
            if (Modifier.isPrivate(field.getModifiers())) {
                continue;
            }
            boolean constant = field.getModifiers()
                == (Modifier.PUBLIC | Modifier.STATIC | Modifier.FINAL);
            seen.add(constant && field.getType() == int.class
                ? field.getName() + "=" + field.getInt(null) : "no constant: " + field.getName());
        }
        return seen;
    }

    private static boolean namesAreApart(Class<?> face) {
        Set<String> names = new TreeSet<>();
        for (Method method : face.getMethods()) {
            names.add(method.getName());
        }
        for (Method method : face.getDeclaredMethods()) {
            if (Modifier.isPrivate(method.getModifiers()) && names.contains(method.getName())) {
                return false;
            }
        }
        return true;
    }
}
