import java.lang.reflect.InvocationTargetException;
import java.lang.reflect.Method;
import java.util.ArrayList;
import java.util.Comparator;
import java.util.List;

/**
 * What the tests share: answers compared with those that are due, rooms to begin from, and what a call must leave alone.
 * Tests extend it, since a class without a package can't be imported from.
 */
abstract class Check {
    interface Made {
        HeartVanes room();
    }

    interface Asked {
        int answer(HeartVanes vanes);
    }

    interface AskedBy {
        int answer(HeartVanes vanes, int number);
    }

    private interface View {
        List<Integer> of(HeartVanes vanes);
    }

    static final int BAD = HeartVanes.BAD, NO = HeartVanes.NO, FULL = HeartVanes.FULL, NONE = HeartVanes.NONE;
    static final int LEAST = Integer.MIN_VALUE, MOST = Integer.MAX_VALUE;

    /** A ROOM, 6 PERSONS and 17 LEANINGS in 200 letters. */
    static final String TEXT_OF_200 = "r9,9;p0,0,0;p1,8,0;p2,0,8;p3,8,8;p0,4,4;p1,4,5;" + "l0,1,0,5;".repeat(8) + "l5,4,1,9;".repeat(9);

    private static int wrong = 0;
    private static int made = 0;
    private static String test = "";

    // ---- answers

    static void due(String call, long got, long want) {
        made++;
        if (got != want) {
            wrong++;
            System.out.println(test + call + " answered " + got + ", due is " + want);
        }
    }

    static void dueTrue(String what, boolean so) {
        due(what, so ? 1 : 0, 1);
    }

    private static void dueAlike(String call, List<Integer> got, List<Integer> want) {
        made++;
        if (!got.equals(want)) {
            wrong++;
            System.out.println(test + call + ": " + got + ", due is " + want);
        }
    }

    /** The call answers so, and whatever is asked behind it is answered as if it had not been. */
    static void leaves(String call, Made from, Asked asked, int want) {
        List<View> views = List.of(Check::standing, Check::asked, Check::undone, Check::goneBack, Check::laidAnew);
        for (View view : views) {
            HeartVanes with = from.room();
            due(call, asked.answer(with), want);
            dueAlike("behind " + call, view.of(with), view.of(from.room()));
        }
    }

    /** A number is BAD below low and above high, and changes nothing there; low and high themselves are not BAD. */
    static void bounds(String call, Made from, int low, int high, AskedBy asked) {
        int[] outside = {low - 1, high + 1, LEAST, MOST, low - 4, low - 256, high + 256, high + 65536};
        for (int number : outside) {
            leaves(call + " by " + number, from, vanes -> asked.answer(vanes, number), BAD);
        }
        dueTrue(call + " by " + low + " is not BAD", asked.answer(from.room(), low) != BAD);
        dueTrue(call + " by " + high + " is not BAD", asked.answer(from.room(), high) != BAD);
    }

    // ---- rooms to begin from

    static void writeAll(HeartVanes vanes, String text) {
        for (int i = 0; i < text.length(); i++) {
            vanes.write(text.charAt(i));
        }
    }

    static HeartVanes written(String text) {
        HeartVanes vanes = new HeartVanes();
        writeAll(vanes, text);
        return vanes;
    }

    /** A new object whose room is that of the text; a text that can't be laid would make a test void. */
    static HeartVanes laid(String text) {
        HeartVanes vanes = written(text);
        if (vanes.lay() < 1) {
            throw new IllegalArgumentException("not to be laid: " + text);
        }
        return vanes;
    }

    /** 6 PERSONS in a ROOM of 9, 8; something is SEEN (2), KEPT (1), can be UNDONE (4), has gone by (5) and stands in THE TEXT. */
    static HeartVanes busy() {
        HeartVanes vanes = laid("r9,8;p0,4,4;p1,0,0;p2,8,7;p3,4,0;p0,0,7;p1,8,3;"
                + "l0,1,0,5;l0,5,1,9;l1,0,0,3;l2,5,0,20;l3,0,1,2;l4,0,0,7;l5,2,0,1;");
        vanes.see(0, 1, 7);
        vanes.see(2, 3, 3);
        vanes.pass(3);
        vanes.keep();
        vanes.walk(0, 0);
        vanes.lean(1, 2, -6);
        vanes.pass(2);
        return vanes;
    }

    /** 2 PERSONS, so that 2 to 5 are none. */
    static HeartVanes two() {
        HeartVanes vanes = laid("r3,2;p0,1,1;p1,2,0;l0,1,0,4;l1,0,1,6;");
        vanes.pass(1);
        vanes.keep();
        vanes.walk(0, 3);
        return vanes;
    }

    /** 1 PERSON in a ROOM of one PLACE. */
    static HeartVanes alone() {
        return laid("r1,1;p2,0,0;");
    }

    // ---- what a call must leave alone

    private static List<Integer> standing(HeartVanes vanes) {
        List<Integer> answers = new ArrayList<>();
        for (int what = 0; what < 10; what++) {
            answers.add(vanes.count(what));
        }
        for (int p = 0; p < 6; p++) {
            for (int what = 0; what < 7; what++) {
                answers.add(vanes.person(p, what));
            }
            for (int q = 0; q < 6; q++) {
                answers.add(vanes.leaning(p, q));
            }
            answers.add(vanes.kinds(p));
        }
        answers.add(vanes.fault());
        return answers;
    }

    /** Each question of the face that does not stand in the rows of standing(). */
    private static List<Integer> asked(HeartVanes vanes) {
        List<Integer> answers = new ArrayList<>();
        for (int p = 0; p < 6; p++) {
            answers.add(vanes.toward(p));
            answers.add(vanes.behind(3, p));
            answers.add(vanes.marry(p));
            for (int w = 0; w < 8; w++) {
                answers.add(vanes.steps(p, w, -1));
                answers.add(vanes.loves(p, w));
            }
            answers.add(vanes.stand(p, (p + 1) % 6, p, 0));
            answers.add(vanes.stand((p + 1) % 6, p, p, 1));
            answers.add(vanes.away(p, p + 1, 3, 0));
            answers.add(vanes.place(p, p));
        }
        answers.add(vanes.looked(0));
        answers.add(vanes.looked(1));
        answers.add(vanes.settled());
        answers.add(vanes.marry(-1));
        answers.add(vanes.evening(5, 9, 0));
        answers.add(vanes.evening(5, 9, 1));
        return answers;
    }

    private static List<Integer> undone(HeartVanes vanes) {
        List<Integer> answers = new ArrayList<>();
        for (int i = 0; i < 9; i++) {
            answers.add(vanes.undo());
            answers.add(vanes.count(3));
            answers.add(vanes.count(5));
            for (int p = 0; p < 6; p++) {
                for (int what = 1; what < 4; what++) {
                    answers.add(vanes.person(p, what));
                }
            }
        }
        answers.addAll(standing(vanes));
        return answers;
    }

    private static List<Integer> goneBack(HeartVanes vanes) {
        List<Integer> answers = new ArrayList<>();
        for (int i = 0; i < 2; i++) {
            answers.add(vanes.back());
            answers.addAll(standing(vanes));
        }
        answers.add(vanes.back());
        return answers;
    }

    private static List<Integer> laidAnew(HeartVanes vanes) {
        List<Integer> answers = new ArrayList<>();
        answers.add(vanes.lay());
        answers.addAll(standing(vanes));
        answers.add(vanes.wipe());
        return answers;
    }

    /** All that can be asked of how it stands, for tests that compare two rooms. */
    static void dueStandsAs(String what, HeartVanes got, HeartVanes want) {
        dueAlike(what, standing(got), standing(want));
    }

    // ---- runs

    /** Runs each test of the class: its methods that are named promise.., one behind the other. */
    static void runAll(Class<?> tests) {
        List<Method> own = new ArrayList<>();
        for (Method method : tests.getDeclaredMethods()) {
            if (method.getName().startsWith("promise")) {
                own.add(method);
            }
        }
        own.sort(Comparator.comparing(Method::getName));
        for (Method method : own) {
            test = method.getName() + ": ";
            run(method);
        }
        test = "";
        dueTrue("there are tests in " + tests.getName(), !own.isEmpty());
        System.out.print(own.size() + " tests, ");
        end();
    }

    private static void run(Method method) {
        int before = made;
        try {
            method.setAccessible(true);
            method.invoke(null);
        } catch (InvocationTargetException thrown) {
            thrown.getCause().printStackTrace(System.out);
            dueTrue("nothing is thrown", false);
        } catch (IllegalAccessException refused) {
            throw new IllegalStateException(refused);
        }
        dueTrue("something is asked", made > before);
    }

    static void end() {
        System.out.println(made + " answers, " + wrong + " of them wrong");
        if (wrong != 0) {
            System.exit(1);
        }
    }
}
