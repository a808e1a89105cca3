import java.lang.reflect.InvocationTargetException;
import java.lang.reflect.Method;
import java.lang.reflect.Modifier;
import java.util.ArrayList;
import java.util.Arrays;
import java.util.Comparator;
import java.util.HashSet;
import java.util.List;
import java.util.Random;
import java.util.Set;

/** Long runs of calls, drawn from fixed seeds, on the program and on the plain model: each answer must be the same. */
final class RandomRunsTest {
    private static final int CALLS = 500;
    private static final String[] SETTINGS = {"step 1-5 1-5", "cool 0-30 0-30", "cool 0-4 0-4", "target 10-100", "warm 0-9",
        "window 1-8", "lead 1-8", "policy watch", "policy trend", "policy season 2-24", "policy season 2-8", "drop newest",
        "drop oldest", "drop cold", "cost 0-99 0-99", "cost 0-9 0-9", "protect ", "protect "};

    private final Random random;
    private final StringBuilder calls = new StringBuilder();

    private RandomRunsTest(long seed) {
        random = new Random(seed);
    }

    public static void main(String[] args) throws ReflectiveOperationException {
        int runs = args.length > 0 ? Integer.parseInt(args[0]) : 300;
        int firstSeed = args.length > 1 ? Integer.parseInt(args[1]) : 0;
        for (int seed = firstSeed; seed < firstSeed + runs; seed++) {
            if (!new RandomRunsTest(seed).runsAlike(seed)) {
                System.exit(1);
            }
        }
        System.out.println(runs + " runs of " + CALLS + " calls: all answers are alike");
    }

    private boolean runsAlike(int seed) throws ReflectiveOperationException {
        Method[] methods = faceMethods();
        PoolScaler program = new PoolScaler();
        PlainModel model = new PlainModel();
        int call = 0;
        while (call < CALLS) {
            if (call == 0 || random.nextInt(150) == 0) {
                String text = setup();
                if (!alike(seed, program, model, method(methods, "truncateInput"), 0)) {
                    return false;
                }
                int kept = random.nextInt(15) == 0 ? random.nextInt(text.length() + 1) : text.length();
                for (int at = 0; at < text.length(); at += 20) {
                    Object[] words = {word(text, at), word(text, at + 4), word(text, at + 8), word(text, at + 12), word(text, at + 16)};
                    if (!alike(seed, program, model, method(methods, "appendInput"), words)) {
                        return false;
                    }
                    call++;
                }
                boolean fine = alike(seed, program, model, method(methods, "truncateInput"), kept)
                    && alike(seed, program, model, method(methods, "loadPools"))
                    && alike(seed, program, model, method(methods, "errorCode"))
                    && alike(seed, program, model, method(methods, "errorOffset"));
                if (!fine) {
                    return false;
                }
                call += 4;
            }
            Method method = random.nextInt(8) == 0 ? method(methods, "run") : methods[random.nextInt(methods.length)];
            if (method.getName().equals("loadPools") && random.nextInt(10) > 0) {
                continue;
            }
            if (!alike(seed, program, model, method, arguments(method))) {
                return false;
            }
            call++;
        }
        return true;
    }

    private static Method[] faceMethods() {
        List<Method> found = new ArrayList<>();
        for (Method method : PoolScaler.class.getDeclaredMethods()) {
            if (Modifier.isPublic(method.getModifiers())) {
                found.add(method);
            }
        }
        found.sort(Comparator.comparing(Method::getName));
        return found.toArray(new Method[0]);
    }

    private static Method method(Method[] methods, String name) {
        return Arrays.stream(methods).filter(m -> m.getName().equals(name)).findFirst().get();
    }

    private boolean alike(int seed, PoolScaler program, PlainModel model, Method method, Object... arguments) throws ReflectiveOperationException {
        Object due = answer(PlainModel.class.getMethod(method.getName(), method.getParameterTypes()), model, arguments);
        Object got = answer(method, program, arguments);
        calls.append(method.getName()).append(Arrays.toString(arguments)).append(" -> ").append(due).append('\n');
        if (due.equals(got)) {
            return true;
        }
        System.out.println("seed " + seed + "; the program answered " + got + " to the last of these calls:\n" + calls);
        return false;
    }

    private static Object answer(Method method, Object on, Object[] arguments) throws ReflectiveOperationException {
        try {
            return method.invoke(on, arguments);
        } catch (InvocationTargetException e) {
            return e.getCause().getClass().getName();
        }
    }

    private static int word(String text, int at) {
        int word = 0;
        for (int i = at; i < at + 4; i++) {
            word = word << 8 | (i < text.length() ? text.charAt(i) & 255 : ' ');
        }
        return word;
    }

    // Arguments: mostly those that fit, some at the edges, some beyond all

    private Object[] arguments(Method method) {
        Class<?>[] types = method.getParameterTypes();
        Object[] arguments = new Object[types.length];
        int[] greatest = greatest(method.getName());
        for (int i = 0; i < types.length; i++) {
            if (types[i] == boolean.class) {
                arguments[i] = random.nextInt(3) > 0;
            } else {
                arguments[i] = number(i < greatest.length ? greatest[i] : 10);
            }
        }
        if (method.getName().equals("setPolicy") && random.nextInt(3) > 0) {
            arguments[2] = arguments[1].equals(2) ? random.nextInt(25) : 0;
        }
        return arguments;
    }

    private int number(int greatest) {
        switch (random.nextInt(60)) {
            case 0: return -1;
            case 1: return Integer.MIN_VALUE;
            case 2: return Integer.MAX_VALUE;
            case 3: return random.nextInt();
            case 4: return greatest + 1;
            case 5: return greatest;
            default: return random.nextInt(random.nextInt(greatest + 1) + 1);
        }
    }

    private int[] greatest(String name) {
        switch (name) {
            case "truncateInput": return new int[] {700};
            case "count": return new int[] {5};
            case "pool": return new int[] {2, 20};
            case "member": return new int[] {40, 4};
            case "memberAt": return new int[] {2, 8};
            case "demand": return new int[] {2, 24};
            case "planned": return new int[] {2, 999};
            case "decisions": return new int[] {2, 5};
            case "event": return new int[] {60, 3};
            case "run": return new int[] {random.nextInt(5) == 0 ? 300 : 6};
            case "push": case "setLoad": return new int[] {2, random.nextInt(2) == 0 ? 999 : 24, 999};
            case "protect": case "drop": case "transfer": return new int[] {40, 3};
            case "grow": return new int[] {2, 5};
            case "setPolicy": return new int[] {2, 2, 24};
            case "setTarget": return new int[] {2, 100};
            case "setCool": return new int[] {2, 30, 30};
            case "setBounds": return new int[] {2, random.nextInt(2) == 0 ? 20 : 4, 20};
            case "errorsWith": return new int[] {2, 2, random.nextInt(4) == 0 ? 300 : 12};
            case "demandsWithin": return new int[] {2, 300, 1200};
            case "outputByte": return new int[] {60};
            default: return new int[] {2, random.nextInt(4) == 0 ? 300 : 12};
        }
    }

    // Setups: mostly right ones; one in three is spoiled at one place

    private String setup() {
        StringBuilder text = new StringBuilder();
        int pools = random.nextInt(20) == 0 ? 5 : 1 + random.nextInt(random.nextInt(4) + 1);
        for (int i = 0; i < pools; i++) {
            int min = random.nextInt(6) == 0 ? random.nextInt(21) : random.nextInt(4);
            int max = Math.max(1, min) + random.nextInt(21 - Math.max(1, min));
            text.append("pool ").append(min).append(' ').append(max).append(' ').append(1 + random.nextInt(random.nextBoolean() ? 100 : 12)).append(';');
            int many = random.nextInt(8);
            Set<String> told = new HashSet<>();
            for (int k = 0; k < many; k++) {
                String form = SETTINGS[random.nextInt(SETTINGS.length)];
                String word = form.substring(0, form.indexOf(' '));
                if (word.equals("protect") ? min > 0 : told.add(word) || random.nextInt(40) == 0) {
                    text.append(setting(form.equals("protect ") ? "protect 0-" + (min - 1) : form));
                }
            }
            if (random.nextInt(6) > 0) {
                text.append(load());
            }
        }
        if (text.length() > 700) {
            text.setLength(700);
        }
        if (random.nextInt(4) == 0) {
            spoil(text);
        }
        return text.toString();
    }

    private String setting(String form) {
        StringBuilder text = new StringBuilder();
        for (String part : form.split(" ")) {
            int dash = part.indexOf('-');
            if (dash > 0) {
                int least = Integer.parseInt(part.substring(0, dash));
                int most = Integer.parseInt(part.substring(dash + 1));
                text.append(random.nextInt(150) == 0 ? most + 1 : least + random.nextInt(most - least + 1));
            } else {
                text.append(part);
            }
            text.append(random.nextInt(9) == 0 ? "\n " : " ");
        }
        return text.append(';').toString();
    }

    private String load() {
        StringBuilder text = new StringBuilder("load");
        int many = 1 + random.nextInt(random.nextInt(20) == 0 ? 25 : 10);
        int most = new int[] {10, 60, 200, 1000}[random.nextInt(4)];
        for (int i = 0; i < many; i++) {
            text.append(' ').append(random.nextInt(most));
        }
        return text.append(';').toString();
    }

    private void spoil(StringBuilder text) {
        String signs = "0123456789 ;\nabcpolz-A{\u00e9";
        int at = random.nextInt(text.length());
        switch (random.nextInt(4)) {
            case 0:
                text.deleteCharAt(at);
                break;
            case 1:
                text.insert(at, signs.charAt(random.nextInt(signs.length())));
                break;
            case 2:
                text.setCharAt(at, signs.charAt(random.nextInt(signs.length())));
                break;
            default:
                text.insert(at, new String[] {"pool 1 2 3;", "protect 0;", "load 1;", ";", "0001", "watch", "policy season 5;"}[random.nextInt(7)]);
                break;
        }
        if (text.length() > 700) {
            text.setLength(700);
        }
    }
}
