import java.lang.reflect.Method;
import java.util.Arrays;
import java.util.ArrayList;
import java.util.List;
import java.util.Random;

/** Long runs by draws (always the same ones): each answer of the program compared with that of the model. */
public final class ModelTest {
    private static final int RUNS = 300;
    private static final int CALLS = 300;
    private static final int CROWDS = 1000;
    private static final Random DRAWS = new Random(20261118);
    private static final List<Method> FACE = new ArrayList<>();
    private static final int[] FAR = {Integer.MIN_VALUE, -1000, -21, -5, -4, -3, -2, -1, 9, 10, 11, 21, 24, 25, 40, 41, 60, 61, 9999, 10000, Integer.MAX_VALUE};

    private static int upTo(int most) {
        return DRAWS.nextInt(most + 1);
    }

    /** A number that such a parameter may be, now and then one that it may not. */
    private static int argument(String call, int at) {
        if (upTo(19) == 0) {
            return FAR[upTo(FAR.length - 1)];
        }
        switch (call + at) {
            case "write0": return 31 + upTo(96);
            case "person1": return upTo(7);
            case "place0": case "place1": return upTo(9);
            case "pass0": return upTo(3) == 0 ? upTo(25) : 1 + upTo(2);
            case "walk1": return upTo(3);
            case "lean2": return upTo(41) - 20;
            case "looked0": case "stand3": case "away3": case "evening2": return upTo(1);
            case "behind0": return upTo(40);
            case "behind1": return upTo(5);
            case "steps1": case "stand2": case "see2": case "loves1": case "away1": return upTo(7);
            case "steps2": return upTo(8) - 1;
            case "marry0": return upTo(6) - 1;
            case "see1": return upTo(1) == 0 ? upTo(3) : upTo(20);
            case "away2": return upTo(10);
            case "evening0": return upTo(9999);
            case "evening1": return 1 + upTo(59);
            case "count0": return upTo(10);
            default: return upTo(5);
        }
    }

    private static String text() {
        StringBuilder text = new StringBuilder();
        int w = 6, h = 6;
        for (int rooms = upTo(2); rooms > 0; rooms--) {
            w = 1 + upTo(8);
            h = 1 + upTo(8);
            text.append("r").append(w).append(",").append(h).append(";");
        }
        int people = upTo(3) == 0 ? upTo(6) : Math.min(2 + upTo(4), w * h);
        List<Integer> places = new ArrayList<>();
        for (int p = 0; p < people; p++) {
            int place = upTo(w * h - 1);
            while (places.contains(place) && upTo(99) > 0) {
                place = upTo(w * h - 1);
            }
            places.add(place);
            text.append("p").append(upTo(3)).append(",").append(place / h).append(",").append(place % h).append(";");
        }
        for (int leanings = upTo(14); leanings > 0 && people > 1; leanings--) {
            int a = upTo(people - 1);
            int b = upTo(9) == 0 && upTo(9) == 0 ? a : (a + 1 + upTo(people - 2)) % people;
            text.append("l").append(a).append(",").append(b).append(",").append(upTo(3) / 3).append(",").append(upTo(20)).append(";");
        }
        if (upTo(2) == 0 && text.length() > 0) {
            text.setCharAt(upTo(text.length() - 1), "rpl0123456789,,;; "
                    .charAt(upTo(17)));
        }
        return text.toString();
    }

    private static int answer(Object of, Method method, Object[] arguments) throws Exception {
        Method own = of.getClass().getDeclaredMethod(method.getName(), method.getParameterTypes());
        own.setAccessible(true);
        return (int) own.invoke(of, arguments);
    }

    private static void compare(HeartVanes vanes, Model model, Method method, String run) throws Exception {
        Object[] arguments = new Object[method.getParameterCount()];
        for (int i = 0; i < arguments.length; i++) {
            arguments[i] = argument(method.getName(), i);
        }
        String call = run + method.getName() + Arrays.toString(arguments);
        Check.due(call, answer(vanes, method, arguments), answer(model, method, arguments));
    }

    private static void layAnew(HeartVanes vanes, Model model, String run) {
        String text = text();
        Check.due(run + "wipe()", vanes.wipe(), model.wipe());
        for (int i = 0; i < text.length(); i++) {
            Check.due(run + "write of " + text, vanes.write(text.charAt(i)), model.write(text.charAt(i)));
        }
        Check.due(run + "fault() of " + text, vanes.fault(), model.fault());
        Check.due(run + "lay() of " + text, vanes.lay(), model.lay());
    }

    /** Rooms in which most lean toward most, by little, so that MARRY has much to choose from or no way at all. */
    private static void askCrowd(HeartVanes vanes, Model model, String run) {
        int most = 1 + upTo(5);
        for (int a = 0; a < 6; a++) {
            for (int b = 0; b < 6; b++) {
                int l = upTo(most + 1) - 1;
                Check.due(run + "lean(" + a + ", " + b + ", " + l + ")", vanes.lean(a, b, l), model.lean(a, b, l));
            }
        }
        for (int p = -1; p < 6; p++) {
            Check.due(run + "marry(" + p + ")", vanes.marry(p), model.marry(p));
        }
        for (int p = 0; p < 6; p++) {
            int w = upTo(7);
            int k = upTo(3) - 1;
            int x = upTo(10);
            Check.due(run + "steps(" + p + ", " + w + ", " + k + ")", vanes.steps(p, w, k), model.steps(p, w, k));
            Check.due(run + "away(" + p + ", " + w + ", " + x + ", 0)", vanes.away(p, w, x, 0), model.away(p, w, x, 0));
        }
    }

    public static void main(String[] args) throws Exception {
        for (Method method : HeartVanes.class.getDeclaredMethods()) {
            if (java.lang.reflect.Modifier.isPublic(method.getModifiers())) {
                FACE.add(method);
            }
        }
        // the machine tells methods in no order of its own, and the runs are to be the same ones
        FACE.sort((a, b) -> a.getName().compareTo(b.getName()));
        for (int run = 0; run < RUNS; run++) {
            HeartVanes vanes = new HeartVanes();
            Model model = new Model();
            String name = "run " + run + ": ";
            if (run % 8 != 0) {
                layAnew(vanes, model, name);
            }
            for (int i = 0; i < CALLS; i++) {
                compare(vanes, model, FACE.get(upTo(FACE.size() - 1)), name);
            }
        }
        for (int i = 0; i < 20000; i++) {
            layAnew(new HeartVanes(), new Model(), "text " + i + ": ");
        }
        for (int i = 0; i < CROWDS; i++) {
            HeartVanes vanes = new HeartVanes();
            Model model = new Model();
            layAnew(vanes, model, "crowd " + i + ": ");
            askCrowd(vanes, model, "crowd " + i + ": ");
        }
        Check.end();
    }
}
