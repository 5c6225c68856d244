import java.io.IOException;
import java.lang.reflect.Constructor;
import java.lang.reflect.Field;
import java.lang.reflect.Method;
import java.lang.reflect.Modifier;
import java.nio.file.Files;
import java.nio.file.Path;
import java.util.ArrayList;
import java.util.List;
import java.util.TreeSet;

/** The public face as the document writes it, what LANGUAGE.md asks of members, and wild arguments. */
public final class FaceTests {
    private static final String[] FACE = {
        "boolean depth(int, int, double)", "boolean border(int, int, double, double)",
        "boolean wind(int, double, double)", "boolean river(int, int, double)",
        "int run(int, double)", "double level(int, int)", "double speed(int, int, int, int)",
        "long volume(int)", "long through(int, int)", "boolean kept()",
        "double warm(int, int, int)", "double salt(int, int, int)", "boolean dry(int, int)",
        "int nest(int, int, int)", "boolean equal(int)", "int fit(int)",
        "boolean gauge(int, int, double, double)", "double tide(double)", "int save()",
        "boolean back(int)", "double ice(int, int)", "double mud(int, int)",
        "double differs(int, int)"};
    private static final int[] WHOLE = {Integer.MIN_VALUE, -1, 0, 1, 2, 3, 4, 8, 12, 24, 200,
        Integer.MAX_VALUE};
    private static final double[] REAL = {Double.NaN, Double.NEGATIVE_INFINITY, -1.0, -0.0, 0.0,
        Double.MIN_VALUE, 0.5, 1.0, 20.0, 600.0, 1000.0, Double.MAX_VALUE, Double.POSITIVE_INFINITY};

    public static void main(String[] args) throws Exception {
        theFaceIsTheDocuments();
        membersKeepToTheRules();
        theSourceHasNothingRuledOut();
        noArgumentThrows();
        Check.end();
    }

    private static void theFaceIsTheDocuments() throws NoSuchFieldException, IllegalAccessException {
        TreeSet<String> due = new TreeSet<>(List.of(FACE));
        TreeSet<String> got = new TreeSet<>();
        for (Method method : CellCurrents.class.getDeclaredMethods()) {
            if (!Modifier.isPrivate(method.getModifiers())) {
                got.add(written(method));
                Check.yes(method + " is public, of the object",
                    Modifier.isPublic(method.getModifiers()) && !Modifier.isStatic(method.getModifiers()));
            }
        }
        Check.yes("face: " + got, got.equals(due));
        int modifiers = CellCurrents.class.getModifiers();
        Check.yes("public and final", Modifier.isPublic(modifiers) && Modifier.isFinal(modifiers));
        Constructor<?>[] made = CellCurrents.class.getDeclaredConstructors();
        Check.same("constructors", made.length, 1);
        Check.yes("of three", made[0].toString().equals("public CellCurrents(int,int,int)"));
        for (Field field : CellCurrents.class.getDeclaredFields()) {
            boolean open = !Modifier.isPrivate(field.getModifiers());
            Check.yes("field " + field, !open || field.getName().equals("NONE"));
        }
        Field none = CellCurrents.class.getDeclaredField("NONE");
        Check.yes("NONE", none.toString().equals("public static final int CellCurrents.NONE"));
        Check.same("NONE", none.getInt(null), -1);
    }

    private static String written(Method method) {
        StringBuilder text = new StringBuilder(method.getReturnType().getName());
        text.append(' ').append(method.getName()).append('(');
        for (Class<?> type : method.getParameterTypes()) {
            text.append(text.charAt(text.length() - 1) == '(' ? "" : ", ").append(type.getName());
        }
        return text.append(')').toString();
    }

    private static void membersKeepToTheRules() {
        List<Class<?>> all = new ArrayList<>(List.of(CellCurrents.class.getDeclaredClasses()));
        all.add(CellCurrents.class);
        Check.yes("some twelve classes", all.size() <= 12);
        TreeSet<String> names = new TreeSet<>();
        for (String call : FACE) {
            names.add(call.substring(call.indexOf(' ') + 1, call.indexOf('(')));
        }
        for (Class<?> type : all) {
            int own = 0;
            for (Field field : type.getDeclaredFields()) {
                own += Modifier.isStatic(field.getModifiers()) ? 0 : 1;
                Check.yes(field + " is no open static", !Modifier.isStatic(field.getModifiers())
                    || Modifier.isFinal(field.getModifiers()) && field.getType() != double.class);
            }
            Check.yes("some twenty fields of " + type, own <= 20);
            for (Method method : type.getDeclaredMethods()) {
                Check.yes("parameters of " + method, method.getParameterCount() <= 7);
                Check.yes("name of " + method, !names.contains(method.getName())
                    || type == CellCurrents.class && Modifier.isPublic(method.getModifiers()));
            }
            Check.yes(type + " inside", type == CellCurrents.class
                || Modifier.isStatic(type.getModifiers()) && !Modifier.isPublic(type.getModifiers()));
        }
    }

    private static void theSourceHasNothingRuledOut() throws IOException {
        String source = Files.readString(Path.of("src/main/java/CellCurrents.java"));
        String[] ruledOut = {"import ", "package ", "->", "::", "finally", "synchronized", "assert ",
            "Exact(", "Double.", "System.out", "Throwable"};
        for (String word : ruledOut) {
            Check.no("source with " + word, source.contains(word));
        }
        for (char c : source.toCharArray()) {
            if (c > 126) {
                Check.no("source with " + (int) c, true);
            }
        }
    }

    private static void noArgumentThrows() {
        int calls = 0;
        for (int k = 0; k < WHOLE.length; k++) {
            for (int l = 0; l < WHOLE.length; l++) {
                CellCurrents sea = new CellCurrents(WHOLE[k], WHOLE[l], WHOLE[(k + l) % WHOLE.length]);
                sea.depth(0, 0, 3.0);
                calls += callAll(sea, WHOLE[k], WHOLE[l]);
                Check.yes("kept after wild calls", sea.kept());
            }
        }
        Check.same("calls", calls, WHOLE.length * WHOLE.length * (REAL.length * 7 + 17));
    }

    private static int callAll(CellCurrents sea, int a, int b) {
        int calls = 0;
        for (double d : REAL) {
            sea.depth(a, b, d);
            sea.border(a, b, d, 0.5);
            sea.wind(a, d, 1.0);
            sea.river(a, b, d);
            sea.gauge(a, b, d, 1.0);
            sea.tide(d);
            sea.run(a % 5, d);
            calls += 7;
        }
        sea.nest(a, b, 3);
        sea.nest(0, 0, b);
        sea.save();
        sea.run(b % 7, 600.0);
        sea.back(a);
        sea.fit(b);
        sea.level(a, b);
        sea.speed(a, b, a, b);
        sea.volume(a);
        sea.through(a, b);
        sea.warm(a, b, a);
        sea.salt(a, b, b);
        sea.dry(a, b);
        sea.ice(a, b);
        sea.mud(a, b);
        sea.differs(a, b);
        sea.equal(a);
        return calls + 17;
    }
}
