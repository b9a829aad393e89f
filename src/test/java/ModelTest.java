import java.lang.reflect.InvocationTargetException;
import java.lang.reflect.Method;
import java.util.ArrayList;
import java.util.HashMap;
import java.util.List;
import java.util.Map;
import java.util.Random;
import java.util.TreeMap;

/** Runs of 512 calls, the same ones each time, on the program and on the model; each answer must be the same. */
public final class ModelTest {
    private static final int RUNS = 4000;
    private static final int CALLS = 512;
    private static final int[] WILD = {Integer.MIN_VALUE, Integer.MAX_VALUE, -1, 0, 100, 1000, -100};
    private static final Map<String, Method> OF_PROGRAM = methodsOf(SiegePost.class);
    private static final Map<String, Method> OF_MODEL = methodsOf(Model.class);
    private static final Map<String, Integer> SEEN = new TreeMap<>();

    private final Random random;
    private final int kind;
    private final SiegePost program = new SiegePost();
    private final Model model = new Model();
    private final List<String> done = new ArrayList<>();
    private boolean isRight = true;

    private ModelTest(int run) {
        random = new Random(run);
        kind = run % 5;
    }

    public static void main(String[] args) {
        int wrong = 0;
        for (int run = 0; run < RUNS && wrong < 5; run++) {
            ModelTest test = new ModelTest(run);
            while (test.isRight && test.done.size() < CALLS) {
                test.step();
            }
            if (!test.isRight) {
                wrong++;
                System.out.println("run " + run + ": " + String.join("; ", test.done));
            }
        }
        wrong += unseen();
        System.out.println(wrong == 0 ? "all runs answer as the model does" : "there are runs that answer otherwise");
        if (wrong != 0) {
            System.exit(1);
        }
    }

    /** Runs that never reach an answer say nothing about it. */
    private static int unseen() {
        int unseen = 0;
        for (String method : OF_PROGRAM.keySet()) {
            for (Class<?> exception : OF_PROGRAM.get(method).getExceptionTypes()) {
                unseen += missing(method + " throws " + exception.getSimpleName());
            }
            unseen += missing(method);
        }
        for (int reason = 1; reason <= 9; reason++) {
            unseen += missing("refusal " + reason);
        }
        return unseen;
    }

    private static int missing(String what) {
        if (SEEN.getOrDefault(what, 0) >= 20) {
            return 0;
        }
        System.out.println("hardly seen: " + what + ", " + SEEN.getOrDefault(what, 0));
        return 1;
    }

    private static Map<String, Method> methodsOf(Class<?> face) {
        Map<String, Method> methods = new HashMap<>();
        for (Method method : face.getDeclaredMethods()) {
            if (java.lang.reflect.Modifier.isPublic(method.getModifiers())) {
                method.setAccessible(true);
                methods.put(method.getName(), method);
            }
        }
        return methods;
    }

    private static String answer(Method method, Object target, Object[] arguments) {
        try {
            return String.valueOf(method.invoke(target, arguments));
        } catch (InvocationTargetException e) {
            Throwable cause = e.getCause();
            boolean isOfTheMachine = String.valueOf(cause.getMessage()).contains("by zero");
            return " throws " + (isOfTheMachine ? "by the machine" : cause.getClass().getSimpleName());
        } catch (IllegalAccessException e) {
            throw new AssertionError(e);
        }
    }

    private void call(String name, Object... arguments) {
        if (!isRight || done.size() >= CALLS) {
            return;
        }
        String got = answer(OF_PROGRAM.get(name), program, arguments);
        String due = answer(OF_MODEL.get(name), model, arguments);
        StringBuilder row = new StringBuilder(name).append('(');
        for (Object argument : arguments) {
            row.append(row.charAt(row.length() - 1) == '(' ? "" : ", ").append(argument);
        }
        done.add(row.append(") -> ").append(got).toString());
        SEEN.merge(got.startsWith(" throws") ? name + got : name, 1, Integer::sum);
        if (name.equals("refusal") && Boolean.FALSE.equals(arguments[0]) && !got.startsWith(" ")) {
            SEEN.merge("refusal " + got, 1, Integer::sum);
        }
        if (!got.equals(due)) {
            isRight = false;
            done.add("due is " + due);
        }
    }

    private int from(int least, int most) {
        return least + random.nextInt(most - least + 1);
    }

    /** Mostly a number of the range, now and then one at its edges or just outside, seldom a wild one. */
    private int number(int least, int most) {
        int dice = random.nextInt(40);
        if (dice == 0) {
            return WILD[random.nextInt(WILD.length)];
        }
        if (dice == 1) {
            return random.nextBoolean() ? least - 1 : most + 1;
        }
        if (dice < 6) {
            return random.nextBoolean() ? least : most;
        }
        return from(least, most);
    }

    private int aBalloon() {
        return number(0, Math.max(0, model.account(3) - 1));
    }

    /** Mostly a balloon with this sign, if there is one. */
    private int aBalloonOf(char sign) {
        int number = aBalloon();
        for (int i = 0; i < model.account(3) && random.nextInt(8) > 0; i++) {
            if (model.sign((number + i & 7) % model.account(3)) == sign) {
                return (number + i & 7) % model.account(3);
            }
        }
        return number;
    }

    private int aLetter() {
        return number(0, Math.max(0, model.account(8) - 1));
    }

    private void step() {
        int dice = random.nextInt(100);
        if (dice < 5) {
            flight();
        } else if (dice < 45) {
            change(random.nextInt(100));
        } else if (dice < 47 || dice < 50 && kind == 0) {
            text();
        } else if (dice < 96) {
            question();
        } else {
            back(random.nextInt(10));
        }
        if (random.nextInt(20) == 0) {
            call("refusal", false);
            call("refusal", true);
        }
    }

    private void change(int dice) {
        if (kind == 4 && random.nextInt(5) == 0) {
            call("letter", number(1, 9), number(0, 2));
        } else if (dice < 3) {
            call("ring", number(1, kind == 0 ? 15 : 4));
        } else if (dice < 15) {
            call("wind", number(0, random.nextBoolean() ? 2 : 5), number(-3, 3), number(-3, 3));
        } else if (dice < 20) {
            call("gas", number(1, 999));
        } else if (dice < 27) {
            call("balloon", number(10, kind == 1 ? 30 : 99));
        } else if (dice < 40) {
            call("fill", aBalloonOf('t'), number(1, random.nextBoolean() ? 20 : 99));
        } else if (dice < 48) {
            call("ballast", aBalloonOf('t'), number(1, random.nextInt(3) > 0 ? 8 : 50));
        } else if (dice < 53) {
            call("courier", aBalloonOf('t'), number(5, 12));
        } else if (dice < 60) {
            call("letter", number(1, 9), number(0, 2));
        } else if (dice < 65) {
            call("load", aLetter(), aBalloonOf('t'));
        } else if (dice < 69) {
            call("loadAll", aBalloonOf('t'));
        } else if (dice < 80) {
            call("launch", aBalloonOf('t'));
        } else if (dice < 90) {
            call("drop", aBalloonOf('a'), number(1, random.nextInt(3) > 0 ? 5 : 50));
        } else {
            call("pass", number(1, kind == 2 || random.nextInt(5) == 0 ? 48 : 3));
        }
    }

    /** A balloon that is made ready and launched, so that there are enough of them in the air. */
    private void flight() {
        int size = from(10, 99);
        call("balloon", size);
        int balloon = model.account(3) - 1;
        call("gas", from(1, 99));
        call("fill", balloon, from(size / 2, size));
        call("ballast", balloon, from(1, 9));
        if (random.nextBoolean()) {
            call("courier", balloon, from(5, 12));
        }
        call("loadAll", balloon);
        call("launch", balloon);
        call("bestDrop", balloon);
        call("endsIn", balloon);
        call("ends", balloon, from(0, 2));
        call("pass", from(1, 4));
    }

    private void question() {
        switch (random.nextInt(19)) {
            case 0, 1, 2 -> call("balloonOf", aBalloon(), number(0, 11));
            case 3 -> call("letterOf", aLetter(), number(0, 3));
            case 4 -> call("weightAgain", aBalloon());
            case 5 -> call("waiting", number(0, Math.max(0, model.account(9) - 1)));
            case 6 -> call("word", aBalloonOf('l'));
            case 7 -> call("sign", aBalloon());
            case 8 -> call("isWithin", number(random.nextBoolean() ? 0 : 13, random.nextBoolean() ? 27 : 39), number(0, 39));
            case 9 -> call("endsIn", aBalloonOf('a'));
            case 10 -> call("ends", aBalloonOf('a'), number(0, 2));
            case 11 -> call("bestDrop", aBalloonOf('a'));
            case 12 -> call("errorPosition");
            case 13 -> call("refusal", random.nextBoolean());
            case 14 -> call("isWell");
            case 15 -> call("meanDistance");
            case 16 -> call("share");
            default -> call("account", number(0, 20));
        }
    }

    private void back(int dice) {
        if (dice < 3 || kind == 3) {
            for (int times = from(1, 9); times > 0; times--) {
                call("undo");
            }
        } else if (dice < 6) {
            call("save");
        } else if (dice < 8) {
            call("restore");
        } else {
            call("undo");
        }
    }

    private void text() {
        StringBuilder text = new StringBuilder();
        for (int orders = from(1, random.nextInt(8) == 0 ? 25 : 4); orders > 0; orders--) {
            text.append(order()).append(orders > 1 ? ";" : "");
        }
        for (int slips = random.nextInt(3) == 0 ? from(1, 2) : 0; slips > 0; slips--) {
            slip(text);
        }
        for (int i = 0; i < text.length(); i++) {
            call("append", text.charAt(i));
        }
        if (random.nextInt(12) > 0) {
            call("read");
            call("errorPosition");
        }
    }

    private String order() {
        int balloon = from(0, Math.min(9, Math.max(0, model.account(3) - (random.nextInt(20) == 0 ? 0 : 1))));
        switch (random.nextInt(8)) {
            case 0:
                return "f" + balloon + "=" + from(0, 30);
            case 1:
                return "b" + balloon + "+" + from(0, random.nextBoolean() ? 9 : 99);
            case 2:
                return "d" + balloon + "-" + from(0, random.nextBoolean() ? 5 : 99);
            case 3:
                return "l" + from(0, Math.max(1, model.account(8))) + "@" + balloon;
            case 4:
                return "u" + balloon;
            case 5:
                return "h" + (random.nextInt(4) == 0 ? "0" + from(0, 9) : "" + from(1, 50));
            default:
                return "w" + from(0, random.nextInt(9) == 0 ? 9 : 5) + ":" + wind() + "," + wind();
        }
    }

    private String wind() {
        return random.nextInt(12) == 0 ? "-0" : "" + from(random.nextInt(12) == 0 ? -9 : -3, 3);
    }

    private void slip(StringBuilder text) {
        String signs = "fbdluhw=+-@:,;0123456789 x" + (char) 0 + (char) 233 + (char) 0x663 + (char) 0xffff;
        int at = random.nextInt(text.length() + 1);
        char sign = signs.charAt(random.nextInt(signs.length()));
        switch (random.nextInt(4)) {
            case 0 -> text.setLength(at);
            case 1 -> text.insert(at, sign);
            case 2 -> text.replace(at, Math.min(at + 1, text.length()), "");
            default -> text.replace(at, Math.min(at + 1, text.length()), "" + sign);
        }
    }
}
