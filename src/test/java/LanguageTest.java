import java.lang.management.ManagementFactory;
import java.lang.reflect.Constructor;
import java.lang.reflect.Field;
import java.lang.reflect.Method;
import java.lang.reflect.Modifier;
import java.nio.file.Files;
import java.nio.file.Path;
import java.util.ArrayList;
import java.util.List;
import java.util.Set;
import java.util.TreeSet;

/** The face of the document, the names and signs of the program, and that no call makes an object. */
public final class LanguageTest {
    private static final Due due = new Due();
    private static final String SOURCE = "src/main/java/FilmBench.java";
    private static final String[] FACE = {
        "again(int,int)", "back()", "bends(int,int)", "changed(int)", "drift(int,int)", "dust(int)", "frame()",
        "keep()", "layer(int,int,int,int)", "made(int,int,int)", "many(int)", "miss(int,int,int,int)", "of(int,int)",
        "on(int,boolean)", "path(int,int)", "peel()", "put(int,int,int,int)", "raw(int,int,int)", "reel(int,int)",
        "row(int,int,long)", "rule(int,int)", "shift(int,int)", "told(int,int)"};

    public static void main(String[] args) throws Exception {
        face();
        constants();
        classesInside();
        signs();
        callsMakeNothing();
        due.end();
    }

    private static void face() {
        Class<?> face = FilmBench.class;
        due.isTrue("public and final", Modifier.isPublic(face.getModifiers()) && Modifier.isFinal(face.getModifiers()));
        Set<String> seen = new TreeSet<>();
        for (Method method : face.getDeclaredMethods()) {
            if (Modifier.isPublic(method.getModifiers())) {
                seen.add(signature(method));
                due.isTrue(method + " answers int", method.getReturnType() == int.class);
                due.isTrue(method + " is not static", !Modifier.isStatic(method.getModifiers()));
            } else {
                due.isTrue(method + " is private", Modifier.isPrivate(method.getModifiers()));
            }
        }
        due.isTrue("the methods are the document's: " + seen, seen.equals(new TreeSet<>(List.of(FACE))));
        Constructor<?>[] makers = face.getDeclaredConstructors();
        due.is("one constructor", makers.length, 1);
        due.isTrue("it is public", Modifier.isPublic(makers[0].getModifiers()) && makers[0].getParameterCount() == 0);
    }

    private static String signature(Method method) {
        List<String> types = new ArrayList<>();
        for (Class<?> type : method.getParameterTypes()) types.add(type.getName());
        return method.getName() + "(" + String.join(",", types) + ")";
    }

    private static void constants() throws Exception {
        Set<String> seen = new TreeSet<>();
        for (Field field : FilmBench.class.getDeclaredFields()) {
            int modifiers = field.getModifiers();
            if (Modifier.isPublic(modifiers)) {
                seen.add(field.getName() + "=" + field.getInt(null));
            } else {
                due.isTrue(field + " is private", Modifier.isPrivate(modifiers));
            }
            due.isTrue(field + " is final if static", !Modifier.isStatic(modifiers) || Modifier.isFinal(modifiers));
        }
        due.isTrue("the constants are the document's: " + seen,
                seen.equals(new TreeSet<>(List.of("NUMBER=-1", "FULL=-2", "NONE=-3", "NOTHING=-1000"))));
    }

    private static void classesInside() {
        Set<String> faceNames = new TreeSet<>();
        for (String call : FACE) faceNames.add(call.substring(0, call.indexOf('(')));
        for (Class<?> type : FilmBench.class.getDeclaredClasses()) {
            due.isTrue(type + " is not of the face", !Modifier.isPublic(type.getModifiers()) && !Modifier.isProtected(type.getModifiers()));
            for (Method method : type.getDeclaredMethods()) {
                due.isTrue(method + " bears no name of the face", !faceNames.contains(method.getName()));
            }
        }
        for (Method method : FilmBench.class.getDeclaredMethods()) {
            boolean isPrivate = Modifier.isPrivate(method.getModifiers());
            due.isTrue(method + " bears no name of the face", !isPrivate || !faceNames.contains(method.getName()));
        }
    }

    private static void signs() throws Exception {
        String source = Files.readString(Path.of(SOURCE));
        due.isTrue("signs of ASCII", source.chars().allMatch(sign -> sign < 128));
    }

    /** All calls of a run live in one room, so that none of them may make anything. */
    private static void callsMakeNothing() {
        com.sun.management.ThreadMXBean meter = (com.sun.management.ThreadMXBean) ManagementFactory.getThreadMXBean();
        FilmBench bench = new FilmBench();
        allCalls(bench);
        meter.getCurrentThreadAllocatedBytes();
        long before = meter.getCurrentThreadAllocatedBytes();
        int sum = 0;
        for (int time = 0; time < 17; time++) {
            sum += allCalls(bench);
        }
        long made = meter.getCurrentThreadAllocatedBytes() - before;
        due.isTrue("459 calls make " + made + " bytes (" + sum + ")", made < 400);
    }

    private static int allCalls(FilmBench x) {
        int sum = x.reel(6, 6) + x.frame() + x.row(0, 0, 1234567L) + x.put(0, 1, 1, 9) + x.again(0, 3) + x.again(0, -3);
        sum += x.raw(0, 0, 0) + x.rule(0, 3) + x.miss(1, 0, 0, 0) + x.shift(1, 0) + x.drift(2, 1) + x.path(2, 0);
        sum += x.bends(0, 1) + x.dust(1) + x.layer(0, 1, 0, 0) + x.layer(1, 1, 0, 0) + x.layer(2, 1, 0, 0);
        sum += x.layer(3, 1, 1, 1) + x.on(0, false) + x.made(1, 2, 2) + x.changed(3) + x.of(1, 2) + x.told(1, 4);
        return sum + x.many(5) + x.keep() + x.peel() + x.back();
    }
}
