import java.lang.reflect.Constructor;
import java.lang.reflect.Field;
import java.lang.reflect.Method;
import java.lang.reflect.Modifier;
import java.util.ArrayList;
import java.util.Collections;
import java.util.List;

/** The public face is the document's, with its constants, and nothing beside it. */
public final class FaceTest {
    private static final String[] METHODS = {"account(int)", "atBest(int)", "best(int)", "clearText()", "count(int)",
        "deliver(int,int)", "demand(int,int,int)", "endWeek()", "exchange(int,int)", "fault(int)", "good(int,int)",
        "goodOf(int,int)", "improve(int)", "move(int,int)", "nearest(int)", "pick(int,int)", "place(int,int)",
        "play()", "refill(int)", "set(int,int)", "slotOf(int,int)", "take(int)", "type(int)", "undo()",
        "weekly(int)", "worth(int,int,int)"};

    public static void main(String[] args) {
        Check.due("INVALID_ARGUMENT", PickSlots.INVALID_ARGUMENT, -1);
        Check.due("NOT_POSSIBLE", PickSlots.NOT_POSSIBLE, -2);
        Check.due("LIMIT_REACHED", PickSlots.LIMIT_REACHED, -3);
        Check.due("NOT_FOUND", PickSlots.NOT_FOUND, -4);
        methodsAreTheFace();
        fieldsAreTheConstants();
        classesInside();
        Check.end();
    }

    private static boolean isPrivate(int modifiers) {
        return Modifier.isPrivate(modifiers);
    }

    private static void methodsAreTheFace() {
        List<String> found = new ArrayList<>();
        List<String> hidden = new ArrayList<>();
        for (Method m : PickSlots.class.getDeclaredMethods()) {
            if (m.isSynthetic()) {
                continue;
            }
            StringBuilder told = new StringBuilder(m.getName()).append('(');
            for (Class<?> type : m.getParameterTypes()) {
                told.append(told.charAt(told.length() - 1) == '(' ? "" : ",").append(type.getName());
            }
            if (isPrivate(m.getModifiers())) {
                hidden.add(m.getName());
            } else {
                found.add(told.append(')').toString());
                Check.due(m.getName() + " is public", Modifier.isPublic(m.getModifiers()) ? 1 : 0, 1);
                Check.due(m.getName() + " answers an int", m.getReturnType() == int.class ? 1 : 0, 1);
            }
        }
        Collections.sort(found);
        Check.due("methods: " + found, found.equals(List.of(METHODS)) ? 1 : 0, 1);
        for (String method : METHODS) {
            String name = method.substring(0, method.indexOf('('));
            Check.due("private method " + name, hidden.contains(name) ? 1 : 0, 0);
        }
    }

    private static void fieldsAreTheConstants() {
        int open = 0;
        for (Field f : PickSlots.class.getDeclaredFields()) {
            if (!f.isSynthetic() && !isPrivate(f.getModifiers())) {
                open++;
            }
        }
        Check.due("fields that are not private", open, 4);
        Constructor<?>[] constructors = PickSlots.class.getDeclaredConstructors();
        Check.due("constructors", constructors.length, 1);
        Check.due("public constructor", Modifier.isPublic(constructors[0].getModifiers()) ? 1 : 0, 1);
        Check.due("final", Modifier.isFinal(PickSlots.class.getModifiers()) ? 1 : 0, 1);
    }

    private static void classesInside() {
        for (Class<?> inside : PickSlots.class.getDeclaredClasses()) {
            Check.due(inside.getName() + " is static", Modifier.isStatic(inside.getModifiers()) ? 1 : 0, 1);
            Check.due(inside.getName() + " is public", Modifier.isPublic(inside.getModifiers()) ? 1 : 0, 0);
        }
    }
}
