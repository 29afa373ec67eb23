import java.io.DataInputStream;
import java.io.IOException;
import java.lang.management.ManagementFactory;
import java.lang.reflect.Array;
import java.lang.reflect.Constructor;
import java.lang.reflect.Field;
import java.lang.reflect.Method;
import java.lang.reflect.Modifier;
import java.nio.file.Files;
import java.nio.file.Path;
import java.util.ArrayDeque;
import java.util.ArrayList;
import java.util.Arrays;
import java.util.Deque;
import java.util.IdentityHashMap;
import java.util.List;
import java.util.Map;
import java.util.Set;
import java.util.TreeSet;
import java.util.regex.Matcher;
import java.util.regex.Pattern;

/** What can be seen from outside of LANGUAGE.md's rules, and of the room that a run has. */
public final class LanguageTest {
    private static final String FACE = "sign(int)int end(int)boolean valley()int people()int things()int light()int "
        + "rule()int person(int,int)int thing(int,int)int sheet(int,int,int,int)int hours(int)int faces(int,int)int "
        + "steps(int,int)int trims(int,int)int puts(int,int)int day()int undo()int sees(int)long seers(int)int "
        + "hidden()long pairs()int behind(int)int widest()int watch()int learns(int,int)int all()int ahead(int)int "
        + "gossip(int)int eighths(int,int)int turned()int best(int)int bears(int,int)int back(int,int)int "
        + "open(int,int)int heard(int,int)int forget()int lost()long asks()int storm(int,int,int)int cock(int,int)int "
        + "law()int rests(int)int years(int,int)int keep(int)boolean again(int)boolean count(int)int row(int)long";

    /** All of the library that rule 4 names and the class uses. */
    private static final Set<String> LIBRARY = Set.of(
        "java/lang/Object.<init>", "java/util/NoSuchElementException.<init>", "java/util/Arrays.fill",
        "java/lang/System.arraycopy", "java/lang/String.indexOf", "java/lang/Math.max", "java/lang/Math.min",
        "java/lang/Math.abs", "java/lang/Integer.bitCount", "java/lang/Long.bitCount");

    private static final Pattern BARRED = Pattern.compile(
        "->|::|\\b(try|catch|finally|synchronized|assert|package|volatile|transient|native|instanceof|Object|"
        + "equals|hashCode|toString|Exception e|System\\.(?!arraycopy))\\b|\" \\+|\\+ \"");
    private static final Pattern METHOD = Pattern.compile("( {4}| {8})[a-zA-Z][^=;]*\\)( throws \\w+)? \\{");
    private static final int MOST_LINES = 60;
    private static final int MOST_OBJECTS = 300;
    private static final int MOST_ELEMENTS = 6000;

    public static void main(String[] args) throws Exception {
        face();
        classesInside();
        staticFields();
        library();
        words();
        lengths();
        room();
        callsMakeNothing();
        Check.close("LanguageTest");
    }

    private static List<Class<?>> classes() {
        List<Class<?>> all = new ArrayList<>(List.of(BonnetValley.class));
        all.addAll(Arrays.asList(BonnetValley.class.getDeclaredClasses()));
        return all;
    }

    private static void face() {
        TreeSet<String> want = new TreeSet<>(Arrays.asList(FACE.split(" ")));
        TreeSet<String> got = new TreeSet<>();
        for (Method m : BonnetValley.class.getDeclaredMethods()) {
            if (!Modifier.isPrivate(m.getModifiers())) {
                Check.due(m + " is public", Modifier.isPublic(m.getModifiers()), true);
                StringBuilder s = new StringBuilder(m.getName()).append('(');
                for (Class<?> p : m.getParameterTypes()) {
                    s.append(s.charAt(s.length() - 1) == '(' ? "" : ",").append(p.getName());
                }
                got.add(s.append(')').append(m.getReturnType().getName()).toString());
            }
        }
        Check.due("the face " + got, got.equals(want), true);
        int modifiers = BonnetValley.class.getModifiers();
        Check.due("public and final", Modifier.isPublic(modifiers) && Modifier.isFinal(modifiers), true);
        Constructor<?>[] made = BonnetValley.class.getDeclaredConstructors();
        Check.due("one constructor", made.length, 1);
        Check.due("without parameters", made[0].getParameterCount(), 0);
        for (Field f : BonnetValley.class.getDeclaredFields()) {
            boolean isNone = f.getName().equals("NONE");
            Check.due(f + " is seen", !Modifier.isPrivate(f.getModifiers()), isNone);
        }
    }

    private static void classesInside() {
        TreeSet<String> names = new TreeSet<>();
        for (String s : FACE.split(" ")) {
            names.add(s.substring(0, s.indexOf('(')));
        }
        Check.due("some twelve classes", classes().size() <= 13, true);
        for (Class<?> c : classes()) {
            boolean isOuter = c == BonnetValley.class;
            boolean hidden = !Modifier.isPublic(c.getModifiers()) && !Modifier.isProtected(c.getModifiers());
            Check.due(c + " is static and not public", isOuter || hidden && Modifier.isStatic(c.getModifiers()), true);
            for (Method m : c.getDeclaredMethods()) {
                boolean own = isOuter && Modifier.isPublic(m.getModifiers());
                Check.due(m + " bears a public name", !own && names.contains(m.getName()), false);
                Check.due(m + " has too many parameters", m.getParameterCount() > 7, false);
            }
            long fields = Arrays.stream(c.getDeclaredFields()).filter(f -> !Modifier.isStatic(f.getModifiers())).count();
            Check.due(c + " has too many fields: " + fields, fields > 20, false);
        }
    }

    private static void staticFields() {
        Set<Class<?>> plain = Set.of(int.class, long.class, boolean.class, char.class, String.class,
            int[].class, long[].class, char[].class, byte[].class);
        for (Class<?> c : classes()) {
            for (Field f : c.getDeclaredFields()) {
                if (Modifier.isStatic(f.getModifiers())) {
                    boolean ok = Modifier.isFinal(f.getModifiers()) && plain.contains(f.getType());
                    Check.due(f + " may be static", ok, true);
                }
            }
        }
    }

    private static void library() throws IOException {
        for (Class<?> c : classes()) {
            for (String used : methodsUsedBy(c)) {
                boolean own = used.startsWith("BonnetValley");
                Check.due(c + " uses " + used, own || LIBRARY.contains(used), true);
            }
        }
    }

    /** Read from the class file, where every method that is called is named. */
    private static TreeSet<String> methodsUsedBy(Class<?> c) throws IOException {
        TreeSet<String> used = new TreeSet<>();
        try (DataInputStream in = new DataInputStream(c.getResourceAsStream("/" + c.getName() + ".class"))) {
            in.readInt();
            in.readInt();
            int n = in.readUnsignedShort();
            String[] text = new String[n];
            int[] first = new int[n];
            int[] second = new int[n];
            List<Integer> methods = new ArrayList<>();
            for (int i = 1; i < n; i++) {
                int tag = in.readUnsignedByte();
                switch (tag) {
                    case 1: text[i] = in.readUTF(); break;
                    case 3: case 4: in.readInt(); break;
                    case 5: case 6: in.readLong(); i++; break;
                    case 7: case 8: first[i] = in.readUnsignedShort(); break;
                    case 9: case 10: case 11: case 12:
                        first[i] = in.readUnsignedShort();
                        second[i] = in.readUnsignedShort();
                        if (tag == 10 || tag == 11) {
                            methods.add(i);
                        }
                        break;
                    default: throw new IOException("a constant of kind " + tag + ", which plain code has not");
                }
            }
            for (int m : methods) {
                used.add(text[first[first[m]]] + "." + text[first[second[m]]]);
            }
        }
        return used;
    }

    private static List<String> source() throws IOException {
        return Files.readAllLines(Path.of("src", "main", "java", "BonnetValley.java"));
    }

    /** Rules 1, 3, 6 and 10: what may not stand in the code, comments aside. */
    private static void words() throws IOException {
        List<String> imports = new ArrayList<>();
        for (String line : source()) {
            String code = line.replaceAll("//.*|/\\*\\*.*|^ *\\*.*", "");
            Check.due("may not stand: " + line, BARRED.matcher(code).find(), false);
            Check.due("no sign beyond 127: " + line, line.chars().allMatch(c -> c < 128), true);
            if (code.startsWith("import")) {
                imports.add(code);
            }
        }
        Check.due(imports + " are imported",
            imports.equals(List.of("import java.util.Arrays;", "import java.util.NoSuchElementException;")), true);
    }

    /** Rule 11: some sixty lines a method. */
    private static void lengths() throws IOException {
        int methods = 0;
        String end = "";
        int length = 0;
        for (String line : source()) {
            Matcher m = METHOD.matcher(line);
            if (end.isEmpty() && m.matches()) {
                methods++;
                end = m.group(1) + "}";
                length = 0;
            }
            length++;
            if (line.equals(end)) {
                Check.due("a method of " + length + " lines", length <= MOST_LINES, true);
                end = "";
            }
        }
        Check.due("methods were found: " + methods, methods > 150, true);
    }

    private static void room() throws IllegalAccessException {
        Map<Object, Boolean> met = new IdentityHashMap<>();
        Deque<Object> open = new ArrayDeque<>(List.of(new BonnetValley()));
        long elements = 0;
        while (!open.isEmpty()) {
            Object x = open.pop();
            if (met.put(x, true) != null) {
                continue;
            }
            if (x.getClass().isArray()) {
                elements += Array.getLength(x);
                for (int i = 0; i < Array.getLength(x) && !x.getClass().getComponentType().isPrimitive(); i++) {
                    open.push(Array.get(x, i));
                }
                continue;
            }
            for (Field f : x.getClass().getDeclaredFields()) {
                if (!Modifier.isStatic(f.getModifiers())) {
                    elements++;
                    f.setAccessible(true);
                    if (!f.getType().isPrimitive()) {
                        open.push(f.get(x));
                    }
                }
            }
        }
        System.out.println("a new object: " + met.size() + " objects, " + elements + " fields and elements");
        Check.due("objects", met.size() <= MOST_OBJECTS, true);
        Check.due("fields and elements", elements <= MOST_ELEMENTS, true);
    }

    /** Rows are made in constructors and used again: a call makes no object. */
    private static void callsMakeNothing() {
        BonnetValley v = new BonnetValley();
        com.sun.management.ThreadMXBean bean = (com.sun.management.ThreadMXBean) ManagementFactory.getThreadMXBean();
        long id = Thread.currentThread().getId();
        dearCalls(v);
        bean.getThreadAllocatedBytes(id);
        long ahead = bean.getThreadAllocatedBytes(id);
        long none = bean.getThreadAllocatedBytes(id) - ahead;
        ahead = bean.getThreadAllocatedBytes(id);
        for (int i = 0; i < 100; i++) {
            dearCalls(v);
        }
        long made = bean.getThreadAllocatedBytes(id) - ahead - none;
        Check.due("calls make " + made + " bytes", made <= 100, true);
    }

    private static void dearCalls(BonnetValley v) {
        v.sign(0x37372e2e);
        for (int i = 0; i < 12; i++) {
            v.sign(0x2e2e2e2e);
        }
        v.end(51);
        v.valley();
        v.sign(0x30303032);
        v.people();
        v.sign(0x36363433);
        v.people();
        v.sign(0x36360000);
        v.end(2);
        v.things();
        v.sign(0x6c2d6200);
        v.end(3);
        v.rule();
        v.sign(0x6c2d6200);
        v.end(3);
        v.law();
        v.sign(0x6e356630);
        v.sign(0x31000000);
        v.end(5);
        v.day();
        v.light();
        v.hours(60);
        v.faces(0, 3);
        v.steps(0, 3);
        v.trims(0, 1);
        v.puts(0, 3);
        v.keep(0);
        v.again(0);
        v.undo();
        v.sheet(0, 8, 1, 1);
        v.sees(0);
        v.seers(4);
        v.hidden();
        v.pairs();
        v.behind(0);
        v.widest();
        v.watch();
        v.learns(0, 0);
        v.all();
        v.ahead(99);
        v.gossip(0);
        v.eighths(0, 9);
        v.turned();
        v.best(0);
        v.bears(0, 5);
        v.back(0, 48);
        v.open(0, 48);
        v.heard(0, 1);
        v.lost();
        v.asks();
        v.forget();
        v.storm(0, 1, 5);
        v.cock(60, 9);
        v.rests(20);
        v.years(3, 60);
        v.person(0, 5);
        v.thing(0, 2);
        v.count(8);
        v.row(0);
    }
}
