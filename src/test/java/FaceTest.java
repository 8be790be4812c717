import java.lang.reflect.Constructor;
import java.lang.reflect.Field;
import java.lang.reflect.Method;
import java.lang.reflect.Modifier;
import java.util.ArrayList;
import java.util.Arrays;
import java.util.Comparator;
import java.util.List;
import java.util.Random;
import java.util.TreeSet;

/** The public face, member for member, and calls with any arguments in any state: none throws. */
public final class FaceTest {
    private static final String FACE = """
        site(int,int) plug(int,int,int) car(int,int,int,int,int) set(int,int) drive(int,int,int) gain(int,int,int) of(int,int)
        trip(int,int,int,int) feed(long,int) read(int) siteOf(int,int) come(int,int,int,int) leave(int) go(int,int)
        fail(int,boolean) ticks(int) plugOf(int,int) says(int,boolean) tried(int,int,boolean) tryOf(int,int) lies()
        advice(int,int,int) line(boolean,int,int,int) joined(int) clear() many(int) keep() back()
        """;
    private static final int[] EDGES = {
        Integer.MIN_VALUE, Integer.MIN_VALUE + 9, -1000, -4, -3, -2, -1, 0, 1, 2, 3, 5, 6, 7, 9, 10, 11, 12, 13, 15, 16, 17, 22, 30,
        33, 34, 40, 41, 42, 46, 50, 51, 60, 99, 100, 101, 150, 200, 300, 998, 999, 1000, 2000, 2001, Integer.MAX_VALUE - 9,
        Integer.MAX_VALUE,
    };

    public static void main(String[] args) throws ReflectiveOperationException {
        Script s = new Script();
        face(s);
        for (int seed = 0; seed < 300; seed++) {
            anyCalls(s, seed);
        }
        s.end("FaceTest");
    }

    private static void face(Script s) {
        s.due("public final", RoadPlugs.class.getModifiers(), Modifier.PUBLIC | Modifier.FINAL);
        TreeSet<String> due = new TreeSet<>(List.of(FACE.strip().split("\\s+")));
        TreeSet<String> found = new TreeSet<>();
        for (Method method : RoadPlugs.class.getDeclaredMethods()) {
            if (Modifier.isPrivate(method.getModifiers()) || method.isSynthetic()) {
                continue;
            }
            List<String> types = new ArrayList<>();
            for (Class<?> type : method.getParameterTypes()) {
                types.add(type.getName());
            }
            found.add(method.getName() + "(" + String.join(",", types) + ")");
            s.due(method.getName() + " is public and not static", method.getModifiers(), Modifier.PUBLIC);
            s.due(method.getName() + " answers an int", method.getReturnType() == int.class ? 1 : 0, 1);
        }
        s.due("the methods " + found, found.equals(due) ? 1 : 0, 1);
        Constructor<?>[] makers = RoadPlugs.class.getDeclaredConstructors();
        s.due("one constructor", makers.length, 1);
        s.due("it is public", makers[0].getModifiers(), Modifier.PUBLIC);
        s.due("it takes nothing", makers[0].getParameterCount(), 0);
        TreeSet<String> constants = new TreeSet<>();
        for (Field field : RoadPlugs.class.getDeclaredFields()) {
            if (!Modifier.isPrivate(field.getModifiers())) {
                constants.add(field.getName());
            }
        }
        s.due("the constants " + constants, constants.equals(new TreeSet<>(List.of("NUMBER", "FULL", "NONE", "STATE"))) ? 1 : 0, 1);
        s.due("NUMBER", RoadPlugs.NUMBER, -1);
        s.due("FULL", RoadPlugs.FULL, -2);
        s.due("NONE", RoadPlugs.NONE, -3);
        s.due("STATE", RoadPlugs.STATE, -4);
    }

    private static void anyCalls(Script s, int seed) throws ReflectiveOperationException {
        Random random = new Random(seed);
        RoadPlugs plugs = new RoadPlugs();
        for (int i = 0; seed % 3 > 0 && i < 16; i++) {
            plugs.site(i * (1 + seed % 150), 1 + random.nextInt(30));
            plugs.plug(random.nextInt(6), 1 + random.nextInt(30), random.nextInt(2));
            plugs.car(10 + random.nextInt(190), 1 + random.nextInt(40), 1 + random.nextInt(150), random.nextInt(2), random.nextInt(11));
            plugs.come(i, random.nextInt(6), 10, random.nextInt(4));
        }
        Method[] methods = RoadPlugs.class.getDeclaredMethods();
        // The machine names them in any order; a run is to be the same each time.
        Arrays.sort(methods, Comparator.comparing(Method::getName));
        for (int i = 0; i < 448; i++) {
            Method method = methods[random.nextInt(methods.length)];
            if (!Modifier.isPublic(method.getModifiers())) {
                continue;
            }
            Class<?>[] types = method.getParameterTypes();
            Object[] values = new Object[types.length];
            for (int k = 0; k < types.length; k++) {
                values[k] = anyValue(random, types[k]);
            }
            int answer = (Integer) method.invoke(plugs, values);
            s.due("an answer is no less than that of a fault", answer >= -200 ? 1 : 0, 1);
        }
    }

    private static Object anyValue(Random random, Class<?> type) {
        if (type == boolean.class) {
            return random.nextBoolean();
        }
        if (type == long.class) {
            return random.nextLong();
        }
        return EDGES[random.nextInt(EDGES.length)];
    }
}
