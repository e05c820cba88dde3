import java.lang.reflect.Constructor;
import java.lang.reflect.Field;
import java.lang.reflect.Method;
import java.lang.reflect.Modifier;
import java.util.ArrayList;
import java.util.Arrays;
import java.util.HashSet;
import java.util.List;
import java.util.Set;
import java.util.TreeSet;
import java.util.regex.Matcher;
import java.util.regex.Pattern;

/** The face of the class is that of the document, with nothing beside it (LANGUAGE.md, rules 1 and 5). */
public final class FaceTest {
    private static final String I = "IllegalStateException";
    private static final String A = "IllegalArgumentException";
    private static final String X = "IndexOutOfBoundsException";

    private static final String[] FACE = {
        "int append(int,int,int,int,int)", "int load(int) " + X + " " + A, "int parseError()",
        "int errorPosition()", "int buffered()", "int count(int) " + I + " " + A,
        "int slot(int,int) " + I + " " + X + " " + A, "int image(int,int) " + I + " " + X + " " + A,
        "int install(int) " + I + " " + A, "int boot(int,int) " + I + " " + A,
        "int whyNot(int) " + I + " " + X, "int choice() " + I, "int place(int) " + I + " " + X,
        "int newest() " + I, "int spare() " + I, "int fallback() " + I, "int weakest() " + I,
        "int twins(int) " + I + " " + X, "int sinking() " + I, "int floorWith(int) " + I + " " + X,
        "boolean mayHold(int) " + I + " " + X, "int mostBoots() " + I,
        "int bootsOf(int) " + I + " " + X, "int stateIn(int) " + I + " " + A,
        "int slotIn(int) " + I + " " + A, "int floorIn(int) " + I + " " + A,
        "int bootsIn(int) " + I + " " + A, "int runsIn(int,int) " + I + " " + X + " " + A,
        "int crashesIn(int) " + I + " " + A, "int newerIn() " + I, "int rescueIn() " + I,
        "int goodIn(int) " + I + " " + X, "int calmIn() " + I,
        "int triesIn(int,int) " + I + " " + X + " " + A, "int ifBooted() " + I,
        "int givenUpIf() " + I, "int settlesOn() " + I, "int settlesWithout(int) " + I + " " + X,
        "int ifInstalled(int,int,int) " + I + " " + X + " " + A, "int triesFor(int) " + I + " " + X,
        "int bestWatch(int) " + I + " " + X, "int highestFloor() " + I, "int keySlot() " + I,
        "float successShare() " + I, "double meanBoot() " + I, "int writeSlots() " + I,
        "int writeBoots() " + I, "int writeMachine() " + I, "int textByte(int) " + X,
        "int power() " + I + " " + A, "int cut() " + I + " " + A, "int reboot() " + I + " " + A,
        "int tick(int) " + I + " " + A, "int begin(int,int,int,int,int) " + I + " " + X + " " + A,
        "int spoil(int,int) " + I + " " + X + " " + A, "int mark(int,int,int) " + I + " " + X + " " + A,
        "int setNumber(int,int) " + I + " " + A, "int undo() " + I, "int undoable()",
        "int save(int) " + I + " " + X, "int restore(int) " + X + " " + I,
    };

    public static void main(String[] args) {
        Set<String> told = new TreeSet<>();
        Set<String> names = new HashSet<>();
        for (Method m : BootSlots.class.getDeclaredMethods()) {
            if (Modifier.isPublic(m.getModifiers())) {
                told.add(signature(m));
                names.add(m.getName());
            }
        }
        Check.due("the public methods", told, new TreeSet<>(Arrays.asList(FACE)));
        for (Method m : BootSlots.class.getDeclaredMethods()) {
            boolean isPrivate = Modifier.isPrivate(m.getModifiers());
            boolean hides = isPrivate && names.contains(m.getName());
            Check.due("a name of its own, " + m, hides, false);
            Check.due("public or private, " + m, isPrivate || Modifier.isPublic(m.getModifiers()), true);
        }
        checkFields();
        checkConstructors();
        checkDocument();
        Check.end();
    }

    private static String signature(Method m) {
        StringBuilder told = new StringBuilder(m.getReturnType() + " " + m.getName() + "(");
        for (int i = 0; i < m.getParameterTypes().length; i++) {
            told.append(i == 0 ? "" : ",").append(m.getParameterTypes()[i]);
        }
        told.append(")");
        for (Class<?> e : m.getExceptionTypes()) {
            told.append(" ").append(e.getSimpleName());
        }
        return told.toString();
    }

    /** The face above is that of the document, and the heads of the promises are those of its face. */
    private static void checkDocument() {
        if (Doc.words(Doc.FACE).isEmpty()) {
            return;
        }
        List<String> face = new ArrayList<>();
        Matcher head = Pattern.compile("public ([^;={}]+\\)[^;={}]*);").matcher(Doc.words(Doc.FACE));
        while (head.find()) {
            face.add(head.group(1));
        }
        Check.due("the heads of the promises", Doc.heads(), face);
        Set<String> told = new TreeSet<>();
        for (String line : face) {
            told.add(withoutNames(line));
        }
        told.remove("BootSlots()");
        Check.due("the document's face", told, new TreeSet<>(Arrays.asList(FACE)));
        String rest = Doc.words(Doc.FACE).replaceAll("public [^;={}]+\\)[^;={}]*;", "").replaceAll("\\s+", " ");
        Check.due("what else it tells", rest, "public final class BootSlots { public static final int NONE = -1; }");
    }

    private static String withoutNames(String head) {
        return head.replaceAll("int \\w+(?=[,)])", "int").replace(", int", ",int").replaceFirst(" throws ", " ")
                .replace(", I", " I");
    }

    private static void checkFields() {
        Check.due("NONE", BootSlots.NONE, -1);
        for (Field f : BootSlots.class.getDeclaredFields()) {
            boolean constant = f.getName().equals("NONE");
            Check.due("private but for NONE, " + f, Modifier.isPrivate(f.getModifiers()), !constant);
            boolean isStatic = Modifier.isStatic(f.getModifiers());
            Check.due("final if static, " + f, !isStatic || Modifier.isFinal(f.getModifiers()), true);
        }
        for (Class<?> inside : BootSlots.class.getDeclaredClasses()) {
            Check.due("static, " + inside, Modifier.isStatic(inside.getModifiers()), true);
            Check.due("not public, " + inside, Modifier.isPublic(inside.getModifiers()), false);
        }
    }

    private static void checkConstructors() {
        Constructor<?>[] all = BootSlots.class.getDeclaredConstructors();
        Check.due("constructors", all.length, 1);
        Check.due("parameters of it", all[0].getParameterCount(), 0);
        Check.due("public", Modifier.isPublic(all[0].getModifiers()), true);
        Check.due("final class", Modifier.isFinal(BootSlots.class.getModifiers()), true);
    }
}
