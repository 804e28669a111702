import java.lang.reflect.Constructor;
import java.lang.reflect.Field;
import java.lang.reflect.Method;
import java.lang.reflect.Modifier;
import java.nio.file.Files;
import java.nio.file.Path;
import java.util.Arrays;
import java.util.Set;
import java.util.TreeSet;

/**
 * The public face is the document's and no more (rule 1 of LANGUAGE.md), the class uses no library but System.arraycopy and
 * Integer.bitCount and throws and catches nothing (rules 4, 6), its methods are short (rule 11), and calls make no objects
 * (rule 12).
 */
public final class FaceTest {
    private static final Check check = new Check();
    private static final String METHODS = "house2 hog3 interest1 of2 at2 type1 read0 count1 nights1 put2 pay2 drive2 "
            + "forgive1 drift1 undo0 seed1 ahead3 where2 then2 lost1 free1 keep2 part3 drives3 visits2 solvent2 sleep3 "
            + "image0 restore0 dawns7 film5 sheet3 drop1 item4 copy5";

    public static void main(String[] args) throws java.io.IOException {
        source();
        constants();
        members();
        classesInside();
        room();
        check.end();
    }

    private static void source() throws java.io.IOException {
        String text = Files.readString(Path.of("src/main/java/HogMortgage.java")).replaceAll("(?s)/\\*.*?\\*/|//[^\n]*", "");
        for (String word : "package import throw throws try catch finally synchronized assert instanceof native volatile".split(" ")) {
            check.due("the word " + word, text.matches("(?s).*\\b" + word + "\\b.*") ? 1 : 0, 0);
        }
        for (String sign : new String[] {"->", "::", "\""}) {
            check.due("the sign " + sign, text.contains(sign) ? 1 : 0, 0);
        }
        String library = text.replace("System.arraycopy(", "").replace("Integer.bitCount(", "");
        check.due("another library", library.matches("(?s).*\\b(System|Math|Integer|Long|Arrays|List|String|Object)\\b.*") ? 1 : 0, 0);
        check.due("more than seven parameters", text.matches("(?s).*\\((int \\w+, ){7}.*") ? 1 : 0, 0);
        check.due("the longest method has some sixty lines at most", longestMethod(text) <= 60 ? 1 : 0, 1);
    }

    private static int longestMethod(String text) {
        int longest = 0;
        int lines = 0;
        for (String line : text.split("\n")) {
            boolean begins = line.matches(" {4}( {4})?[^ ].*[)] [{]") && !line.trim().matches("(if|for|while|switch) .*");
            lines = begins ? 1 : lines + 1;
            if (line.equals("    }") || line.equals("        }")) {
                longest = Math.max(longest, lines);
            }
        }
        return longest;
    }

    private static void constants() {
        check.due("BAD", HogMortgage.BAD, -1);
        check.due("NOT", HogMortgage.NOT, -2);
        check.due("FULL", HogMortgage.FULL, -3);
        check.due("NONE", HogMortgage.NONE, -4);
        check.due("NULL", HogMortgage.NULL, -11);
        check.due("CAST", HogMortgage.CAST, -12);
        check.due("INDEX", HogMortgage.INDEX, -13);
        check.due("SIZE", HogMortgage.SIZE, -14);
    }

    private static void members() {
        check.due("the class is public and final", HogMortgage.class.getModifiers() & (Modifier.PUBLIC | Modifier.FINAL),
                Modifier.PUBLIC | Modifier.FINAL);
        Set<String> fields = new TreeSet<>();
        for (Field f : HogMortgage.class.getDeclaredFields()) {
            if (!Modifier.isPrivate(f.getModifiers())) {
                fields.add(f.getName() + (Modifier.isPublic(f.getModifiers()) && f.getType() == int.class));
            }
            if (Modifier.isStatic(f.getModifiers()) && !Modifier.isFinal(f.getModifiers())) {
                check.due("a static field that is not final: " + f.getName(), 1, 0);
            }
        }
        check.same("fields", fields.toString(), "[BADtrue, CASTtrue, FULLtrue, INDEXtrue, NONEtrue, NOTtrue, NULLtrue, SIZEtrue]");
        Set<String> methods = new TreeSet<>();
        for (Method m : HogMortgage.class.getDeclaredMethods()) {
            if (!Modifier.isPrivate(m.getModifiers())) {
                boolean asDue = Modifier.isPublic(m.getModifiers()) && m.getReturnType() == int.class
                        && numbersAsDue(m) && !Modifier.isStatic(m.getModifiers());
                methods.add(m.getName() + m.getParameterCount() + (asDue ? "" : " is not as due"));
            }
        }
        check.same("methods", methods.toString(), new TreeSet<>(Arrays.asList(METHODS.split(" "))).toString());
        Constructor<?>[] made = HogMortgage.class.getDeclaredConstructors();
        check.due("constructors", made.length, 1);
        check.due("a constructor of no parameters", made[0].getParameterCount(), 0);
        check.due("a public constructor", made[0].getModifiers() & Modifier.PUBLIC, Modifier.PUBLIC);
    }

    private static boolean numbersAsDue(Method m) {
        Class<?>[] types = m.getParameterTypes();
        for (int k = 0; k < types.length; k++) {
            if (types[k] != (m.getName().equals("item") && k == 3 ? long.class : int.class)) {
                return false;
            }
        }
        return true;
    }

    private static void classesInside() {
        Set<String> face = new TreeSet<>();
        for (String name : METHODS.split(" ")) {
            face.add(name.substring(0, name.length() - 1));
        }
        for (Method m : HogMortgage.class.getDeclaredMethods()) {
            if (Modifier.isPrivate(m.getModifiers()) && face.contains(m.getName())) {
                check.due("a private method with a public one's name: " + m.getName(), 1, 0);
            }
        }
        Class<?>[] inside = HogMortgage.class.getDeclaredClasses();
        check.due("at most some twelve classes", inside.length < 12 ? 1 : 0, 1);
        for (Class<?> c : inside) {
            check.due(c + " is static", c.getModifiers() & Modifier.STATIC, Modifier.STATIC);
            check.due(c + " is not public", c.getModifiers() & (Modifier.PUBLIC | Modifier.PROTECTED), 0);
            check.due(c + " has some twenty fields", c.getDeclaredFields().length <= 20 ? 1 : 0, 1);
            for (Method m : c.getDeclaredMethods()) {
                check.due(m + " has its own name", face.contains(m.getName()) ? 1 : 0, 0);
            }
        }
    }

    /** One run's calls live in one room: the dearest calls must not fill it. */
    private static void room() {
        HogMortgage x = check.lane("4;12.9,0.3,30.6!,7.12,99.2!!,5.20;p6,g4@2,s7@2,f5@3,y9@5");
        long before = allocated();
        HogMortgage y = new HogMortgage();
        long made = allocated() - before;
        check.due("an object is small (" + made + " bytes)", made < 40000 ? 1 : 0, 1);
        y.sheet(0, 0, 24);
        dearCalls(x);
        before = allocated();
        for (int k = 0; k < 10; k++) {
            dearCalls(x);
        }
        made = allocated() - before;
        check.due("calls make nothing (" + made + " bytes)", made < 2000 ? 1 : 0, 1);
    }

    private static long allocated() {
        java.lang.management.ThreadMXBean bean = java.lang.management.ManagementFactory.getThreadMXBean();
        return ((com.sun.management.ThreadMXBean) bean).getThreadAllocatedBytes(Thread.currentThread().getId());
    }

    private static void dearCalls(HogMortgage x) {
        x.part(12, 30, -1);
        x.drives(0, 40, 0);
        x.keep(2, 40);
        x.solvent(2, 40);
        x.sleep(2, 3, 0);
        x.sheet(0, 3, 24);
        x.film(0, 24, 0, 3, 0);
        x.dawns(0, 0, 0, 3, 0, 8, 1);
        x.image();
        x.nights(40);
        x.drift(40);
        x.restore();
        x.copy(0, 0, 0, 1, 23);
        x.type('5');
        x.read();
    }
}
