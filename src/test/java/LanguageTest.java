import java.io.IOException;
import java.lang.reflect.Constructor;
import java.lang.reflect.Field;
import java.lang.reflect.InvocationTargetException;
import java.lang.reflect.Method;
import java.lang.reflect.Modifier;
import java.nio.file.Files;
import java.nio.file.Path;
import java.util.Arrays;
import java.util.Random;
import java.util.TreeSet;

/** The document's face, and those rules of LANGUAGE.md that can be looked up. */
public final class LanguageTest {
    private static final Path SOURCE = Path.of("src/main/java/CloningMachine.java");
    private static final String[] FACE = {
        "alike()", "at(int,int)", "back()", "bit(int)", "cheapest(int)", "cost(int,int)", "count(int)",
        "grew(int,int)", "guess()", "keep()", "likely(int)", "live(int)", "pack()", "renew()",
        "set(int,int)", "spoil(int,int)", "state(int,int)", "take(int)", "unpack(int)", "wipe()",
        "write(int)"};

    private static void must(boolean holds, String what) {
        Faults.must(holds, what);
    }

    private static String signature(Method m) {
        StringBuilder text = new StringBuilder(m.getName()).append('(');
        for (Class<?> type : m.getParameterTypes()) {
            text.append(text.charAt(text.length() - 1) == '(' ? "" : ",").append(type.getName());
        }
        return text.append(')').toString();
    }

    private static void face() {
        Class<?> c = CloningMachine.class;
        must(Modifier.isPublic(c.getModifiers()) && Modifier.isFinal(c.getModifiers()), "the class is public and final");
        Constructor<?>[] made = c.getDeclaredConstructors();
        must(made.length == 1 && Modifier.isPublic(made[0].getModifiers()) && made[0].getParameterCount() == 0,
                "one public constructor without parameters");
        TreeSet<String> open = new TreeSet<>();
        TreeSet<String> openNames = new TreeSet<>();
        TreeSet<String> hidden = new TreeSet<>();
        for (Method m : c.getDeclaredMethods()) {
            if (Modifier.isPrivate(m.getModifiers())) {
                hidden.add(m.getName());
            } else {
                open.add(signature(m));
                openNames.add(m.getName());
                must(Modifier.isPublic(m.getModifiers()) && !Modifier.isStatic(m.getModifiers())
                        && m.getReturnType() == int.class, m + " is public, of an object, and answers int");
            }
        }
        must(open.equals(new TreeSet<>(Arrays.asList(FACE))), "the methods are the document's: " + open);
        hidden.retainAll(openNames);
        must(hidden.isEmpty(), "no private method bears a public name: " + hidden);
    }

    private static void fields() {
        TreeSet<String> open = new TreeSet<>();
        for (Field f : CloningMachine.class.getDeclaredFields()) {
            if (!Modifier.isPrivate(f.getModifiers())) {
                open.add(f.getName());
            }
            must(!Modifier.isStatic(f.getModifiers()) || Modifier.isFinal(f.getModifiers()), f + " is final");
        }
        must(open.equals(new TreeSet<>(Arrays.asList("BAD", "NO", "FULL", "NONE"))), "the constants are the document's: " + open);
        Class<?>[] inside = CloningMachine.class.getDeclaredClasses();
        must(inside.length <= 11, "some twelve classes at most");
        for (Class<?> k : inside) {
            must(Modifier.isStatic(k.getModifiers()) && !Modifier.isPublic(k.getModifiers())
                    && !Modifier.isProtected(k.getModifiers()), k + " is static, private or package-visible");
            must(k.getDeclaredFields().length <= 20, k + " has some twenty fields at most");
            for (Method m : k.getDeclaredMethods()) {
                must(Arrays.stream(FACE).noneMatch(call -> call.startsWith(m.getName() + "(")), m + " bears no public name");
            }
            for (Field f : k.getDeclaredFields()) {
                must(!Modifier.isStatic(f.getModifiers()), f + " is no static state");
            }
        }
    }

    private static void source() throws IOException {
        String text = Files.readString(SOURCE);
        must(text.chars().allMatch(sign -> sign == '\n' || sign >= 32 && sign < 127), "the source is plain text");
        SourceRules.check(SOURCE);
    }

    private static int wild(Random random) {
        int[] edges = {Integer.MIN_VALUE, -1, 0, 1, 2, 60, 255, 256, 65535, Integer.MAX_VALUE};
        switch (random.nextInt(4)) {
            case 0:
                return random.nextInt();
            case 1:
                return edges[random.nextInt(edges.length)];
            default:
                return random.nextInt(300) - 10;
        }
    }

    /** Also far beyond the 512th call, when answers are free but nothing may be thrown. */
    private static void nothingIsThrown() throws IllegalAccessException {
        Random random = new Random(22);
        Method[] methods = CloningMachine.class.getDeclaredMethods();
        Arrays.sort(methods, (a, b) -> a.getName().compareTo(b.getName()));
        CloningMachine x = new CloningMachine();
        for (int i = 0; i < 200000; i++) {
            Method m = methods[random.nextInt(methods.length)];
            if (!Modifier.isPublic(m.getModifiers())) {
                continue;
            }
            Object[] arguments = new Object[m.getParameterCount()];
            for (int k = 0; k < arguments.length; k++) {
                arguments[k] = wild(random);
            }
            try {
                m.invoke(x, arguments);
            } catch (InvocationTargetException e) {
                must(false, m.getName() + Arrays.toString(arguments) + " threw " + e.getCause());
            }
        }
    }

    public static void main(String[] args) throws IOException, IllegalAccessException {
        Faults.in("the language");
        face();
        fields();
        source();
        nothingIsThrown();
        System.out.println(Faults.number() == 0 ? "the face and the rules are kept" : Faults.number() + " faults");
        if (Faults.number() != 0) {
            System.exit(1);
        }
    }
}
