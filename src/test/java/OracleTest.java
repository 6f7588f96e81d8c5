import java.lang.reflect.InvocationTargetException;
import java.lang.reflect.Method;
import java.lang.reflect.Modifier;
import java.util.ArrayDeque;
import java.util.Arrays;
import java.util.Deque;
import java.util.List;
import java.util.Random;

/** Random runs of calls: LogSawyer answers as PlainSawyer does, and never throws. */
public final class OracleTest {
    private static final int RUNS = 700, CALLS = 130;
    private static final int[] EXTREMES = {Integer.MIN_VALUE, Integer.MAX_VALUE, Integer.MIN_VALUE + 1, -2, -1, 0, 1,
        8, 9, 12, 13, 16, 40, 41, 64, 99, 100, 255, 256, 1 << 30};

    private static final String[] NAMES = {"log", "feed", "text", "fault", "heal", "told", "taken", "turn", "rule", "cell",
        "board", "graded", "worth", "opening", "best", "bestTurn", "saw", "stack", "order", "met", "serve", "without",
        "drawn", "chance", "tells", "image", "back", "count", "sheet", "put", "copy"};

    // How often each is called, more or less.
    private static final int[] OFTEN = {6, 14, 8, 24, 4, 12, 10, 8, 14, 14,
        16, 14, 4, 20, 4, 2, 5, 8, 14, 6, 3, 4,
        3, 1, 6, 3, 3, 12, 8, 12, 6};

    // Least and most of each argument as the document has them.
    private static final int[][][] RANGES = {
        {{2, 6}, {0, 4}, {1, 8}}, {{1, 5}, {0, 255}, {0, 255}, {0, 255}, {0, 255}, {0, 255}}, {},
        {{0, 6}, {0, 7}, {0, 7}, {1, 4}}, {{0, 7}}, {{0, 7}, {0, 6}}, {{0, 7}, {0, 6}}, {{0, 3}},
        {{0, 6}, {0, 30}}, {{0, 11}, {0, 11}, {0, 7}, {0, 2}},
        {{0, 11}, {1, 4}, {0, 6}}, {{0, 11}, {1, 4}, {0, 11}, {0, 11}, {0, 63}}, {{0, 11}, {1, 4}}, {{-1, 6}, {0, 2}},
        {{-1, 3}}, {}, {}, {{-1, 16}, {0, 3}}, {{1, 4}, {0, 3}, {1, 12}, {1, 8}}, {{0, 1}}, {}, {{0, 7}},
        {{Integer.MIN_VALUE, Integer.MAX_VALUE}, {0, 8}},
        {{Integer.MIN_VALUE, Integer.MAX_VALUE}, {1, 8}, {0, 3000}, {0, 1}}, {{0, 3}, {0, 2}},
        {}, {}, {{0, 6}}, {{0, 3}, {-1, 1}, {0, 14}}, {{0, 3}, {0, 13}, {0, 4}}, {{0, 3}, {0, 13}, {0, 3}, {0, 13}, {0, 13}}};

    private static final Method[] REAL = methodsOf(LogSawyer.class), PLAIN = methodsOf(PlainSawyer.class);
    private static final int[] asked = new int[NAMES.length];
    private static final int[] refused = new int[NAMES.length];

    public static void main(String[] args) throws ReflectiveOperationException {
        int wrong = 0;
        for (int run = 0; run < RUNS && wrong < 5; run++) {
            wrong += oneRun(run) ? 0 : 1;
        }
        for (int i = 0; i < NAMES.length; i++) {
            if (asked[i] - refused[i] < 200) {
                wrong++;
                System.out.println(NAMES[i] + " was hardly asked: " + asked[i] + ", refused " + refused[i]);
            }
        }
        System.out.println("OracleTest: " + Arrays.stream(asked).sum() + " calls, "
            + Arrays.stream(refused).sum() + " refused, " + wrong + " runs wrong");
        if (wrong != 0) {
            System.exit(1);
        }
    }

    private static boolean oneRun(int run) throws ReflectiveOperationException {
        Random random = new Random(run * 7919L + 1);
        LogSawyer x = new LogSawyer();
        PlainSawyer plain = new PlainSawyer();
        int wild = run % 3 == 0 ? 12 : 60;
        StringBuilder told = new StringBuilder();
        Deque<long[]> due = new ArrayDeque<>();
        for (int i = 0; i < CALLS; i++) {
            boolean lay = plain.count(3) == 0 && run % 5 != 0 && random.nextInt(4) != 0;
            int call = lay ? 0 : pick(random);
            if (due.isEmpty() && NAMES[call].equals("tells") && plain.count(3) > 0) {
                tellTheOpening(random, plain, due);
            }
            long[] a;
            if (!due.isEmpty()) {
                call = (int) due.peek()[0];
                a = Arrays.copyOfRange(due.peek(), 1, due.remove().length);
            } else {
                a = arguments(random, call, wild);
                shape(random, NAMES[call], a, plain);
            }
            told.append(NAMES[call]).append(Arrays.toString(a));
            long want = ask(plain, PLAIN[call], a);
            long got;
            try {
                got = ask(x, REAL[call], a);
            } catch (InvocationTargetException e) {
                System.out.println("run " + run + ":\n" + told + " threw " + e.getCause());
                return false;
            }
            told.append(" -> ").append(got).append('\n');
            asked[call]++;
            refused[call] += got < -1 ? 1 : 0;
            if (got != want) {
                System.out.println("run " + run + ":\n" + told + "due is " + want);
                return false;
            }
        }
        return true;
    }

    /** Calls that make a sheet tell the grades of the opening by some turn, or nearly so, and ask it. */
    private static void tellTheOpening(Random random, PlainSawyer plain, Deque<long[]> due) {
        List<String> names = Arrays.asList(NAMES);
        int t = random.nextInt(4);
        int was = plain.turn(t);
        int boards = plain.opening(-1, 0);
        int more = random.nextInt(4) == 0 ? random.nextInt(3) - 1 : 0;
        int n = Math.max(0, boards + more);
        due.add(new long[] {names.indexOf("sheet"), 2, random.nextInt(2), n});
        for (int k = 0; k < Math.min(boards, n); k++) {
            long grade = random.nextInt(15) == 0 ? random.nextInt(5) + (1L << 32) * random.nextInt(2) : plain.opening(k, 2);
            due.add(new long[] {names.indexOf("put"), 2, k, grade});
        }
        plain.turn(was);
        for (int what = 0; what < 3; what++) {
            due.add(new long[] {names.indexOf("tells"), 2, what});
        }
    }

    private static int pick(Random random) {
        int at = random.nextInt(Arrays.stream(OFTEN).sum());
        int call = 0;
        while (at >= OFTEN[call]) {
            at -= OFTEN[call];
            call++;
        }
        return call;
    }

    private static long[] arguments(Random random, int call, int wild) {
        int[][] ranges = RANGES[call];
        long[] a = new long[ranges.length];
        for (int i = 0; i < a.length; i++) {
            a[i] = random.nextInt(wild * Math.max(1, a.length)) == 0 ? EXTREMES[random.nextInt(EXTREMES.length)]
                : ranges[i][0] + Math.floorMod(random.nextLong(), (long) ranges[i][1] - ranges[i][0] + 1);
        }
        return a;
    }

    /** Makes what is picked blindly worth asking, most times. */
    private static void shape(Random random, String name, long[] a, PlainSawyer plain) {
        boolean often = random.nextInt(12) != 0;
        switch (name) {
            case "feed":
                if (often) {
                    a[0] = random.nextInt(3) == 0 ? 5 : 4;
                    a[1] = "klshrot".charAt(random.nextInt(7));
                    a[2] = '0' + random.nextInt(8);
                    a[3] = '0' + random.nextInt(8);
                    a[4] = '1' + random.nextInt(4);
                    a[5] = random.nextBoolean() ? ' ' : '\n';
                }
                if (random.nextInt(15) == 0) {
                    a[1 + random.nextInt(5)] = random.nextInt(128);
                }
                break;
            case "rule":
                if (a[0] == 6 && often) {
                    a[1] &= 30;
                } else if (a[0] == 0 && often) {
                    a[1] = random.nextInt(3);
                } else if (a[0] == 1 && often) {
                    a[1] = random.nextInt(2);
                } else if (often && random.nextBoolean()) {
                    a[1] = random.nextInt(100);
                }
                break;
            case "graded":
                if (often) {
                    int t = random.nextInt(Math.max(1, plain.count(3)));
                    a[0] = random.nextInt(13 - (int) Math.max(1, Math.min(4, a[1])));
                    a[2] = random.nextInt(12);
                    a[3] = a[2] + random.nextInt(12 - (int) a[2]);
                    a[4] = 8 * random.nextInt(t + 1) + t;
                }
                break;
            case "order":
                if (often) {
                    a[0] = 2 + random.nextInt(2);
                    a[2] = 1 + random.nextInt(8);
                    a[3] = 1 + random.nextInt(4);
                }
                break;
            case "fault":
                if (often && random.nextBoolean()) {
                    a[2] &= 3;
                }
                break;
            case "sheet":
                if (often) {
                    a[0] = random.nextInt(2);
                    a[1] = random.nextInt(5) == 0 ? -1 : random.nextInt(4) / 3;
                }
                break;
            case "heal": case "told": case "taken": case "without":
                if (often) {
                    a[0] = random.nextInt(Math.max(1, plain.count(0)));
                }
                break;
            case "cell":
                if (often) {
                    a[2] = random.nextInt(Math.max(1, plain.count(3)));
                }
                break;
            case "opening":
                if (often) {
                    a[0] = random.nextInt(2 + Math.max(0, plain.opening(-1, 0))) - 1;
                }
                break;
            case "stack":
                if (often) {
                    a[0] = random.nextInt(2 + plain.count(1)) - 1;
                }
                break;
            case "copy":
                if (often) {
                    a[0] = random.nextInt(2);
                    a[1] = random.nextInt(4);
                    a[2] = random.nextInt(2);
                    a[3] = random.nextInt(4);
                    a[4] = random.nextInt(5) - 1;
                }
                break;
            case "tells":
                if (often) {
                    a[0] = random.nextInt(2);
                }
                break;
            case "put":
                if (often) {
                    a[0] = random.nextInt(2);
                    a[1] = random.nextInt(6);
                }
                a[2] = often ? a[2] : random.nextLong();
                break;
            default:
                break;
        }
    }

    private static Method[] methodsOf(Class<?> of) {
        Method[] methods = new Method[NAMES.length];
        for (Method m : of.getDeclaredMethods()) {
            int call = Arrays.asList(NAMES).indexOf(m.getName());
            if (call >= 0 && !Modifier.isPrivate(m.getModifiers())) {
                methods[call] = m;
            }
        }
        return methods;
    }

    private static long ask(Object x, Method method, long[] v) throws ReflectiveOperationException {
        Class<?>[] types = method.getParameterTypes();
        Object[] a = new Object[v.length];
        for (int i = 0; i < v.length; i++) {
            if (types[i] == long.class) {
                a[i] = v[i];
            } else {
                a[i] = (int) v[i];
            }
        }
        return ((Number) method.invoke(x, a)).longValue();
    }
}
