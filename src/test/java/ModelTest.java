import java.lang.reflect.InvocationTargetException;
import java.lang.reflect.Method;
import java.util.ArrayList;
import java.util.List;
import java.util.Random;

/** Promises 1 to 38 in long runs: the program and the model must answer every call alike. */
public final class ModelTest {
    /** What an object answers after as many calls is free. */
    private static final int CALLS = 512;
    private static final int CALLS_OF_ALL = 360;
    private static final String[] CHANGES = {"sign", "unsign", "priority", "platform", "whistle", "lie", "expose",
        "mute", "fine", "hour", "read"};
    private static final String[] OTHERS = {"clear", "lineOf", "platformOf", "clash", "isClear", "free", "way", "heard",
        "ways", "reading", "soonest", "ranked", "isRight", "text", "strip", "character", "refusal", "account",
        "meanLength", "lieShare", "append", "read", "errorPosition", "refusedItem", "undo", "snapshot", "restore"};
    private static final int[] STRANGE = {-1, 7, 8, 10, 60, 128, -2, Integer.MIN_VALUE, Integer.MAX_VALUE};

    private final Random random;
    private final WhistleJunction junction = new WhistleJunction();
    private final Model model = new Model();
    private final List<String> calls = new ArrayList<>();
    /** How seldom an hour ends: then more is whistled in one. */
    private final int slowness;

    private ModelTest(int seed) {
        random = new Random(seed);
        slowness = random.nextInt(6);
    }

    public static void main(String[] args) {
        int runs = args.length > 0 ? Integer.parseInt(args[0]) : 1500;
        for (int seed = 0; seed < runs; seed++) {
            new ModelTest(seed).run();
        }
        System.out.println("ModelTest: " + runs + " runs of " + CALLS + " calls are alike");
    }

    private void run() {
        boolean asksAll = random.nextInt(5) == 0;
        int randomCalls = CALLS - OTHERS.length - (asksAll ? CALLS_OF_ALL : 0);
        while (calls.size() < randomCalls) {
            int kind = random.nextInt(20);
            if (kind == 0) {
                compareInput();
            } else if (kind < 14) {
                compareOne(CHANGES[random.nextInt(CHANGES.length)]);
            } else {
                compareOne(OTHERS[random.nextInt(OTHERS.length)]);
            }
        }
        if (asksAll) {
            compareAll();
        }
        for (String name : OTHERS) {
            compareOne(name);
        }
    }

    private void compareInput() {
        String text = textOfOrders();
        for (int i = 0; i < text.length(); i += 4) {
            int packed = 0;
            for (int k = i; k < i + 4 && k < text.length(); k++) {
                packed = packed << 8 | text.charAt(k);
            }
            compare("append", packed);
        }
        compare("read");
        compare("errorPosition");
        compare("refusedItem");
        compare("refusal", false);
        compare("refusal", true);
    }

    private String textOfOrders() {
        StringBuilder text = new StringBuilder();
        int orders = 1 + random.nextInt(6);
        for (int i = 0; i < orders; i++) {
            text.append(i == 0 ? "" : ";").append(textOfOrder());
        }
        if (random.nextInt(4) == 0) {
            text.setCharAt(random.nextInt(text.length()), "lshw0127;:=>".charAt(random.nextInt(12)));
        }
        return text.toString();
    }

    private String textOfOrder() {
        int line = random.nextInt(60) == 0 ? 7 + random.nextInt(3) : random.nextInt(7);
        switch (random.nextInt(12)) {
            case 0:
            case 1:
                return "s" + line + ":" + word(1 + random.nextInt(random.nextInt(30) == 0 ? 8 : 5));
            case 2:
                return "u" + line;
            case 3:
                return "p" + line + "=" + random.nextInt(10);
            case 4:
            case 5:
                return "w" + line;
            case 6:
                return "l" + line + ">" + random.nextInt(7);
            case 7:
                return "x" + line;
            case 8:
                return "m" + line + ":" + random.nextInt(10);
            case 9:
                return "f" + line;
            default:
                return "h";
        }
    }

    private String word(int length) {
        String word = "";
        for (int i = 0; i < length; i++) {
            word += random.nextBoolean() ? "l" : "s";
        }
        return word;
    }

    private void compareOne(String name) {
        if (name.equals("hour") && random.nextInt(6) < slowness || name.equals("clear") && random.nextInt(8) > 0) {
            return;
        }
        Method method = methodOf(WhistleJunction.class, name);
        Object[] arguments = new Object[method.getParameterCount()];
        for (int i = 0; i < arguments.length; i++) {
            arguments[i] = method.getParameterTypes()[i] == boolean.class ? random.nextBoolean() : (Object) number(name, i);
        }
        if (name.equals("sign") && random.nextInt(20) > 0) {
            int length = 1 + random.nextInt(1 + random.nextInt(6));
            arguments[1] = length;
            arguments[2] = random.nextInt(1 << length);
        }
        compare(name, arguments);
    }

    private int number(String name, int place) {
        if (random.nextInt(50) == 0) {
            return STRANGE[random.nextInt(STRANGE.length)];
        }
        switch (name + place) {
            case "platform0":
            case "platformOf0":
                return random.nextInt(4);
            case "platform1":
                return random.nextInt(6);
            case "platform2":
                return random.nextInt(128);
            case "priority1":
            case "mute1":
            case "lineOf1":
                return random.nextInt(10);
            case "platformOf1":
                return random.nextInt(4);
            case "heard0":
            case "reading0":
            case "character0":
                return random.nextInt(10);
            case "heard1":
                return random.nextInt(5);
            case "ranked0":
                return random.nextInt(3);
            case "account0":
                return random.nextInt(16);
            case "append0":
                return random.nextInt(3) == 0 ? random.nextInt() : "h;sl01:w".charAt(random.nextInt(8));
            default:
                return random.nextInt(7);
        }
    }

    private void compareAll() {
        for (int i = 0; i < 16; i++) {
            compare("account", i);
            compare("platformOf", i / 4, i % 4);
        }
        for (int i = 0; i < 70; i++) {
            compare("lineOf", i / 10, i % 10);
        }
        for (int i = 0; i < 49; i++) {
            compare("clash", i / 7, i % 7);
            compare("ranked", i % 3, i / 7);
            compare("reading", i);
            compare("heard", i / 5, i % 5);
        }
        for (int i = 0; i < 7; i++) {
            compare("soonest", i);
            compare("free", i, true);
            compare("free", i, false);
        }
        compare("strip");
        for (int i = 0; i < 40; i++) {
            compare("character", i);
        }
    }

    private void compare(String name, Object... arguments) {
        if (calls.size() == CALLS) {
            return;
        }
        calls.add(name + java.util.Arrays.toString(arguments));
        Object got = answer(methodOf(WhistleJunction.class, name), junction, arguments);
        Object due = answer(methodOf(Model.class, name), model, arguments);
        if (!due.equals(got)) {
            System.out.println(calls + " answered " + got + ", the model says " + due);
            System.exit(1);
        }
    }

    private static Method methodOf(Class<?> of, String name) {
        for (Method method : of.getDeclaredMethods()) {
            if (method.getName().equals(name)) {
                return method;
            }
        }
        throw new IllegalStateException(name);
    }

    private static Object answer(Method method, Object of, Object[] arguments) {
        try {
            return method.invoke(of, arguments);
        } catch (InvocationTargetException e) {
            return "throws." + e.getCause().getClass().getName();
        } catch (IllegalAccessException e) {
            throw new IllegalStateException(e);
        }
    }
}
