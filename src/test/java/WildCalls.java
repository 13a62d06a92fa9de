import java.lang.reflect.Method;
import java.lang.reflect.Modifier;
import java.util.ArrayList;
import java.util.Comparator;
import java.util.List;
import java.util.Random;

/**
 * Any numbers, in any order: no call may throw, and none that only asks may change what is so. A hall
 * that is as full as can be is asked everything, too.
 */
public final class WildCalls {
    private static final int[] ODD = {Integer.MIN_VALUE, Integer.MIN_VALUE + 1, -1000, -65, -64, -8, -7, -6, -5, -4, -3, -2, -1,
        0, 1, 2, 3, 4, 5, 6, 7, 8, 9, 10, 11, 12, 17, 18, 23, 24, 47, 48, 49, 63, 64, 65, 99, 100, 255, 256, 400, 401, 1000,
        1000000, 1000001, Integer.MAX_VALUE - 1, Integer.MAX_VALUE};
    private static int wrong = 0;

    private static List<Method> face() {
        List<Method> all = new ArrayList<>();
        for (Method method : MirrorHeirs.class.getDeclaredMethods()) {
            if (Modifier.isPublic(method.getModifiers())) {
                all.add(method);
            }
        }
        all.sort(Comparator.comparing(Method::getName));
        return all;
    }

    private static Object call(MirrorHeirs m, Method method, Random random, boolean odd) {
        Object[] numbers = new Object[method.getParameterCount()];
        for (int i = 0; i < numbers.length; i++) {
            numbers[i] = odd ? ODD[random.nextInt(ODD.length)] : random.nextInt(random.nextInt(3) == 0 ? 64 : 4);
        }
        try {
            return method.invoke(m, numbers);
        } catch (ReflectiveOperationException e) {
            wrong++;
            System.out.println(method.getName() + java.util.Arrays.toString(numbers) + " threw " + e.getCause());
            return null;
        }
    }

    private static List<Integer> all(MirrorHeirs m) {
        List<Integer> told = new ArrayList<>();
        for (int what = 0; what < 18; what++) {
            told.add(m.count(what));
        }
        for (int cell = 0; cell < 64; cell++) {
            for (int what = 0; what < 5; what++) {
                told.add(m.at(cell, what));
            }
        }
        for (int i = 0; i < 12; i++) {
            told.add(m.of(i, 0) * 1000 + m.of(i, 1) * 100 + m.of(i, 2));
            told.add(m.estate(i));
            told.add(m.owner(i, 0) * 100 + m.owner(i, 1));
            told.add(m.drawn(i, 0) * 100 + m.drawn(i, 1));
        }
        told.add(m.lit(-1));
        told.add(m.dust());
        told.add(m.fault());
        told.add(m.stopped());
        told.add(m.status());
        return told;
    }

    private static final List<String> ASKING = List.of("at", "of", "dust", "fault", "stopped", "ray", "glance", "views", "pair", "claim",
        "owner", "estate", "lit", "stand", "turned", "stranger", "reveal", "hide", "hides", "peace", "quarrel", "drawn", "count", "status");

    private static void fill(MirrorHeirs m, Random random) {
        m.terms(0, 6);
        for (int heir = 0; heir < 6; heir++) {
            m.heir(random.nextInt(64), heir * 15);
        }
        for (int cell = 0; cell < 64; cell++) {
            m.put(cell, random.nextInt(3) == 0 ? random.nextInt(6) : 0);
        }
        for (int cell = 0; cell < 64; cell++) {
            m.pivot(cell, cell % 6, cell);
        }
        for (int thing = 0; thing < 12; thing++) {
            m.thing(random.nextInt(64), 1 + random.nextInt(99), thing % 10);
        }
        for (int candle = 0; candle < 4; candle++) {
            m.candle(random.nextInt(64));
        }
        for (int law = 0; law < 6; law++) {
            Due.write(m, "claims age/heir+worth*lit;fogs if glance=" + law + ";bars if x/y=" + law);
            m.law();
        }
        m.force(random.nextInt(6));
    }

    private static void wildRuns(List<Method> face) {
        for (int run = 0; run < 60; run++) {
            Random random = new Random(run);
            MirrorHeirs m = new MirrorHeirs();
            if (run % 3 != 0) {
                fill(m, random);
            }
            for (int i = 0; i < 400; i++) {
                Method method = face.get(random.nextInt(face.size()));
                if (method.getName().equals("stand") && i > 40) {
                    continue;
                }
                call(m, method, random, random.nextInt(3) == 0);
            }
        }
    }

    private static void askingChangesNothing(List<Method> face) {
        for (int run = 0; run < 12; run++) {
            Random random = new Random(1000 + run);
            MirrorHeirs m = new MirrorHeirs();
            fill(m, random);
            m.turn(0);
            m.move(1, random.nextInt(64));
            m.telling(1, 2, 3);
            m.hint(0, 1);
            m.draughts(run, 5);
            List<Integer> before = all(m);
            for (Method method : face) {
                for (int i = 0; i < 12 && ASKING.contains(method.getName()); i++) {
                    call(m, method, random, i % 4 == 0);
                }
                if (!before.equals(all(m))) {
                    wrong++;
                    System.out.println(method.getName() + " changed something in run " + run);
                    before = all(m);
                }
            }
        }
    }

    public static void main(String[] args) {
        List<Method> face = face();
        wildRuns(face);
        askingChangesNothing(face);
        System.out.println(wrong == 0 ? "no call threw, no question changed anything" : wrong + " calls went wrong");
        if (wrong != 0) {
            System.exit(1);
        }
    }
}
