import java.lang.management.ManagementFactory;
import java.lang.reflect.Constructor;
import java.lang.reflect.Field;
import java.lang.reflect.Method;
import java.lang.reflect.Modifier;
import java.util.HashSet;
import java.util.NoSuchElementException;
import java.util.Random;
import java.util.Set;
import java.util.TreeSet;

/** The form of the class: its face and limits, that no call throws by itself, and that calls make no objects. */
public final class FormTest {
    private static int wrong = 0;
    private static final Random random = new Random(3);

    private static void must(boolean held, String what) {
        if (!held) {
            wrong++;
            System.out.println(what);
        }
    }

    private static void face() {
        Set<String> due = new TreeSet<>(Set.of("int feed(long,long,long)", "int zoo()", "int days()", "int pen(int,int)",
            "int guest(int,int)", "int animal(int,int)", "int worth(int,int)", "boolean move(int,int)", "int tyre(int)"));
        due.addAll(Set.of("int hour()", "boolean undo()", "int judged(int)", "int show(int)", "boolean tell(int)", "int sets(int)",
            "int next()", "int apart(int)", "int tyres()", "int walk(int,int)"));
        due.addAll(Set.of("int rests(int,int,int)", "int rain(int,int)", "int first(int)", "int years(int,int,int)",
            "boolean mark(int,boolean)", "int count(int)"));
        Set<String> got = new TreeSet<>();
        Set<String> names = new TreeSet<>();
        for (Method m : BearTickets.class.getDeclaredMethods()) {
            if (Modifier.isPublic(m.getModifiers())) {
                StringBuilder b = new StringBuilder(m.getReturnType().getName()).append(' ').append(m.getName()).append('(');
                for (int i = 0; i < m.getParameterCount(); i++) {
                    b.append(i == 0 ? "" : ",").append(m.getParameterTypes()[i].getName());
                }
                got.add(b.append(')').toString());
                Set<Class<?>> thrown = m.getName().equals("rests") ? Set.of(NoSuchElementException.class) : Set.of();
                must(Set.of(m.getExceptionTypes()).equals(thrown), m + " throws something else");
                names.add(m.getName());
            } else {
                must(Modifier.isPrivate(m.getModifiers()), m + " is seen from outside");
            }
        }
        must(got.equals(due), "the face is " + got);
        for (Method m : BearTickets.class.getDeclaredMethods()) {
            must(Modifier.isPublic(m.getModifiers()) || !names.contains(m.getName()), m + " bears the name of a public one");
        }
        for (Field f : BearTickets.class.getDeclaredFields()) {
            must(f.getName().equals("NONE") || Modifier.isPrivate(f.getModifiers()), f + " is seen from outside");
        }
        for (Constructor<?> c : BearTickets.class.getDeclaredConstructors()) {
            must(Modifier.isPublic(c.getModifiers()) && c.getParameterCount() == 0, c + " is no constructor of the face");
        }
        int constant = Modifier.PUBLIC | Modifier.STATIC | Modifier.FINAL;
        for (Field f : BearTickets.class.getFields()) {
            must(f.getModifiers() == constant && f.getType() == int.class, f + " is no constant of the face");
        }
        must(BearTickets.class.getFields().length == 1 && BearTickets.NONE == -1, "NONE is not as told");
        must(Modifier.isFinal(BearTickets.class.getModifiers()), "the class is not final");
        for (Class<?> c : BearTickets.class.getDeclaredClasses()) {
            must(Modifier.isStatic(c.getModifiers()), c + " is not static");
        }
    }

    // LANGUAGE.md, rules 1, 5 and 11, as far as they can be seen in the compiled class.
    private static void limits() {
        Class<?>[] inside = BearTickets.class.getDeclaredClasses();
        must(inside.length < 12, inside.length + " classes inside");
        Set<Class<?>> all = new HashSet<>(Set.of(inside));
        all.add(BearTickets.class);
        for (Class<?> c : all) {
            int fields = 0;
            for (Field f : c.getDeclaredFields()) {
                boolean constant = Modifier.isStatic(f.getModifiers());
                fields += constant ? 0 : 1;
                must(!constant || Modifier.isFinal(f.getModifiers()), f + " is static and not final");
            }
            must(fields <= 20, c + " has " + fields + " fields");
            for (Method m : c.getDeclaredMethods()) {
                must(m.getParameterCount() <= 7, m + " takes more than seven");
            }
        }
    }

    private static int any() {
        switch (random.nextInt(6)) {
            case 0:
                return random.nextInt();
            case 1:
                return random.nextBoolean() ? Integer.MIN_VALUE + random.nextInt(2) : Integer.MAX_VALUE - random.nextInt(2);
            default:
                return random.nextInt(12) - 3;
        }
    }

    private static final String[] PIECES = {"pen a seats 3;", "pen b seats 1;", "pen c seats 0;", "path a b 3;", "guest d boy mood 3 in a;",
        "guest e poet mood 0 in b;", "guest f plain mood 9 in b;", "animal g likes boy coins 50;", "animal h likes poet coins 999;",
        "foe d e;", "feeds 0;", "tyre 9 costs 1;", "rain 5;", "sees ", "moods ", "humour", "others", "*", "9999", "(", ")", "not ", ";",
        "hour;", "move d b;", "tyre e;", " and ", " or ", "<", "=", "-", "\n", "#", "abcdefghij"};

    private static void feedSome(BearTickets x) {
        StringBuilder b = new StringBuilder();
        boolean wild = random.nextInt(3) == 0;
        int last = random.nextInt(4) == 0 ? PIECES.length : 13;
        for (int i = 0; i < (wild ? 30 : last); i++) {
            if (wild || random.nextInt(8) != 0) {
                b.append(PIECES[wild ? random.nextInt(PIECES.length) : i]);
            }
        }
        for (int i = 0; i < b.length(); i += 8) {
            long eight = 0;
            for (int j = i; j < i + 8; j++) {
                eight = eight << 8 | (j < b.length() ? b.charAt(j) : 0);
            }
            x.feed(eight, 0, 0);
        }
    }

    private static void anyCall(BearTickets x) {
        switch (random.nextInt(26)) {
            case 0: x.feed(random.nextLong(), random.nextLong(), random.nextLong()); break;
            case 1: feedSome(x); x.zoo(); break;
            case 2: feedSome(x); x.days(); break;
            case 3: x.pen(any(), any()); break;
            case 4: x.guest(any(), any()); break;
            case 5: x.animal(any(), any()); break;
            case 6: x.worth(any(), any()); break;
            case 7: x.move(any(), any()); break;
            case 8: x.tyre(any()); break;
            case 9: x.hour(); break;
            case 10: x.undo(); break;
            case 11: x.judged(any()); break;
            case 12: x.show(any()); break;
            case 13: x.tell(any()); break;
            case 14: x.sets(any()); break;
            case 15: x.next(); break;
            case 16: x.apart(any()); break;
            case 17: x.tyres(); break;
            case 18: x.walk(any(), any()); break;
            case 19:
                try {
                    x.rests(any(), any(), any());
                } catch (NoSuchElementException e) {
                    must(e.getStackTrace()[0].getClassName().equals("BearTickets"), "rests: not the throw of the class itself");
                }
                break;
            case 20: x.rain(any(), any()); break;
            case 21: x.first(any()); break;
            case 22: x.years(random.nextInt(10000), any(), any()); break;
            case 23: x.mark(any(), random.nextBoolean()); break;
            case 24: x.zoo(); break;
            default: x.count(any());
        }
    }

    private static void neverThrows() {
        for (int run = 0; run < 500; run++) {
            BearTickets x = new BearTickets();
            for (int i = 0; i < 512; i++) {
                try {
                    anyCall(x);
                } catch (RuntimeException | Error e) {
                    must(false, "run " + run + ", call " + i + " threw " + e + " at " + e.getStackTrace()[0]);
                }
            }
        }
    }

    private static void makesNothing() {
        com.sun.management.ThreadMXBean thread = (com.sun.management.ThreadMXBean) ManagementFactory.getThreadMXBean();
        if (!thread.isThreadAllocatedMemorySupported() || !thread.isThreadAllocatedMemoryEnabled()) {
            return;
        }
        thread.getCurrentThreadAllocatedBytes();
        long before = thread.getCurrentThreadAllocatedBytes();
        BearTickets x = new BearTickets();
        long made = thread.getCurrentThreadAllocatedBytes() - before;
        must(made < 60000, "a new object takes " + made + " bytes");
        feedSome(x);
        x.zoo();
        before = thread.getCurrentThreadAllocatedBytes();
        for (int i = 0; i < 40; i++) {
            x.hour();
            x.move(i % 3, i % 2);
            x.tyre(0);
            x.show(0);
            x.tell(0);
            x.sets(1);
            x.next();
            x.apart(0);
            x.tyres();
            x.walk(0, 0);
            x.rests(4, 0, 0);
            x.rain(-1, 6);
            x.first(6);
            x.years(i, 100, 1);
            x.mark(i % 4, i > 20);
            x.judged(0);
            x.undo();
            x.feed(8L << 60, 0, 0);
            x.days();
        }
        made = thread.getCurrentThreadAllocatedBytes() - before;
        must(made < 4096, "760 calls made " + made + " bytes");
    }

    public static void main(String[] args) {
        face();
        limits();
        neverThrows();
        makesNothing();
        System.out.println(wrong == 0 ? "the form is as due" : wrong + " things are not as due");
        if (wrong != 0) {
            System.exit(1);
        }
    }
}
