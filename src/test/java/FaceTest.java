import java.lang.reflect.Constructor;
import java.lang.reflect.Field;
import java.lang.reflect.Method;
import java.lang.reflect.Modifier;
import java.util.TreeSet;

/** The document's public face: nothing of it lacks, nothing else can be seen from outside. */
public final class FaceTest {
    private static final String FACE = "away4 back0 behind2 count1 evening3 fault0 forget0 keep0 kinds1 lay0 lean3 leaning2 "
            + "looked1 loves2 marry1 pass1 person2 place2 see3 settled0 stand4 steps3 toward1 undo0 walk2 wipe0 write1";

    public static void main(String[] args) {
        Check.due("BAD", HeartVanes.BAD, -1);
        Check.due("NO", HeartVanes.NO, -2);
        Check.due("FULL", HeartVanes.FULL, -3);
        Check.due("NONE", HeartVanes.NONE, -4);
        Check.due("public and final", HeartVanes.class.getModifiers(), Modifier.PUBLIC | Modifier.FINAL);
        TreeSet<String> seen = new TreeSet<>();
        for (Method method : HeartVanes.class.getDeclaredMethods()) {
            if (!Modifier.isPrivate(method.getModifiers())) {
                seen.add(method.getName() + method.getParameterCount());
                Check.due(method.getName() + " is public alone", method.getModifiers(), Modifier.PUBLIC);
                Check.due(method.getName() + " answers an int", method.getReturnType() == int.class ? 1 : 0, 1);
            }
        }
        Check.due("the face is " + seen, String.join(" ", seen).equals(FACE) ? 1 : 0, 1);
        int constants = 0;
        for (Field field : HeartVanes.class.getDeclaredFields()) {
            if (!Modifier.isPrivate(field.getModifiers())) {
                constants++;
                Check.due(field.getName(), field.getModifiers(), Modifier.PUBLIC | Modifier.STATIC | Modifier.FINAL);
            }
        }
        Check.due("constants", constants, 4);
        Constructor<?>[] constructors = HeartVanes.class.getDeclaredConstructors();
        Check.due("constructors", constructors.length, 1);
        Check.due("the constructor", constructors[0].getModifiers(), Modifier.PUBLIC);
        Check.end();
    }
}
