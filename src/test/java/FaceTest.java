import java.lang.reflect.Constructor;
import java.lang.reflect.Field;
import java.lang.reflect.Method;
import java.lang.reflect.Modifier;
import java.util.List;
import java.util.Map;
import java.util.TreeMap;
import java.util.TreeSet;

/** The public face is that of the document, and there is nothing beside it. */
public final class FaceTest {
    private static final String I = "IllegalArgumentException";
    private static final String S = "IllegalStateException";
    private static final String X = "IndexOutOfBoundsException";

    public static void main(String[] args) {
        Check.sentence("Promise 1, The public face", "public final class BlockCoaster");
        Class<?> face = BlockCoaster.class;
        Check.due("modifiers", Modifier.PUBLIC | Modifier.FINAL, face.getModifiers());
        Check.due("superclass", Object.class, face.getSuperclass());
        methods(face);
        constructors(face);
        fields(face);
        privateNames(face);
        Check.finish("FaceTest");
    }

    private static Map<String, String> due() {
        Map<String, String> due = new TreeMap<>();
        due.put("addTrain(int)", "int " + X + " " + S);
        due.put("takeTrain()", "int " + S);
        due.put("rescue(int)", "int " + X + " " + S);
        due.put("set(int,int)", "int " + X + " " + I);
        due.put("setHeight(int,int)", "int " + X + " " + I);
        due.put("pass(int)", "int " + I + " " + S);
        due.put("train(int,int)", "int " + X + " " + I);
        due.put("cell(int,int)", "int " + X + " " + I);
        due.put("block(int,int)", "int " + X + " " + I);
        due.put("value(int)", "int " + I);
        due.put("dispatch(int,int)", "int " + X + " " + I);
        due.put("why(int)", "int " + X);
        due.put("ticksToStation(int)", "int " + X);
        due.put("ticksToValley()", "int");
        due.put("dispatchesWith(int)", "int " + I);
        due.put("mostFriction()", "int");
        due.put("leastSquare(int)", "int " + X);
        due.put("meanWarmth()", "double");
        due.put("append(int)", "int " + I + " " + S);
        due.put("clearText()", "int");
        due.put("parse()", "int");
        due.put("undo()", "int " + S);
        due.put("digest()", "long");
        return due;
    }

    private static void methods(Class<?> face) {
        Map<String, String> due = due();
        TreeSet<String> found = new TreeSet<>();
        for (Method method : face.getDeclaredMethods()) {
            if (Modifier.isPrivate(method.getModifiers())) {
                continue;
            }
            Check.due(method.getName() + " modifiers", Modifier.PUBLIC, method.getModifiers());
            StringBuilder key = new StringBuilder(method.getName()).append('(');
            for (Class<?> type : method.getParameterTypes()) {
                key.append(key.charAt(key.length() - 1) == '(' ? "" : ",").append(type);
            }
            String name = key.append(')').toString();
            found.add(name);
            List<String> answers = List.of(due.getOrDefault(name, "").split(" "));
            Check.due(name + " returns", answers.get(0), method.getReturnType().getName());
            for (Class<?> type : method.getExceptionTypes()) {
                Check.due(name + " may throw " + type, true, answers.contains(type.getSimpleName()));
            }
        }
        Check.due("methods", due.keySet().toString(), found.toString());
    }

    private static void constructors(Class<?> face) {
        Constructor<?>[] all = face.getDeclaredConstructors();
        Check.due("constructors", 1, all.length);
        Check.due("constructor", "public BlockCoaster()", all[0].toString());
    }

    private static void fields(Class<?> face) {
        TreeSet<String> visible = new TreeSet<>();
        for (Field field : face.getDeclaredFields()) {
            if (!Modifier.isPrivate(field.getModifiers())) {
                visible.add(field.toString());
            }
            if (Modifier.isStatic(field.getModifiers())) {
                Check.due(field.getName() + " is final", true, Modifier.isFinal(field.getModifiers()));
            }
        }
        Check.due("fields", "[public static final int BlockCoaster.NONE]", visible.toString());
        Check.sentence("Promise 1, Terms", "The constants: `NONE = -1`: There is no such thing.");
        Check.due("NONE", -1, BlockCoaster.NONE);
        Check.sentence("Promise 1, The public face", "public final class BlockCoaster");
        for (Class<?> inside : face.getDeclaredClasses()) {
            Check.due(inside.getName() + " is static", true, Modifier.isStatic(inside.getModifiers()));
            Check.due(inside.getName() + " is visible", false,
                    Modifier.isPublic(inside.getModifiers()) || Modifier.isProtected(inside.getModifiers()));
        }
    }

    private static void privateNames(Class<?> face) {
        TreeSet<String> names = new TreeSet<>();
        for (String key : due().keySet()) {
            names.add(key.substring(0, key.indexOf('(')));
        }
        privateNames(face, names);
        for (Class<?> inside : face.getDeclaredClasses()) {
            privateNames(inside, names);
        }
    }

    private static void privateNames(Class<?> where, TreeSet<String> names) {
        for (Method method : where.getDeclaredMethods()) {
            if (Modifier.isPrivate(method.getModifiers())) {
                Check.due(where.getName() + "." + method.getName() + " bears a public name", false,
                        names.contains(method.getName()));
            }
        }
    }
}
