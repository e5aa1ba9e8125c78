import java.lang.management.ManagementFactory;
import java.lang.reflect.Constructor;
import java.lang.reflect.Field;
import java.lang.reflect.Method;
import java.lang.reflect.Modifier;
import java.util.Arrays;
import java.util.Set;
import java.util.TreeSet;

/** Promise 1, a new object, and the public face with the room that its calls take. */
public final class FaceTest {
    private static final Check check = new Check();
    private static final String BAD_ARGUMENT = " IllegalArgumentException";
    private static final String BAD_STATE = " IllegalStateException";
    private static final String BAD_INDEX = " IndexOutOfBoundsException";
    private static final String[] FACE = {
        "stop(int,int,int):int" + BAD_ARGUMENT + BAD_STATE, "cancel(int,int):boolean", "publish():int" + BAD_STATE,
        "household(int,int,int):void" + BAD_ARGUMENT, "group(int,int,int):boolean" + BAD_ARGUMENT, "key(int):boolean",
        "post(int,int,int,int):int" + BAD_ARGUMENT + BAD_STATE, "minute(int):int" + BAD_ARGUMENT,
        "meet(int,int,int):int" + BAD_ARGUMENT, "breakOff(int,int,int):int" + BAD_ARGUMENT,
        "reboot(int):void" + BAD_ARGUMENT,
        "spoil(int,int,int,int,int):int" + BAD_ARGUMENT + " NoSuchElementException",
        "box(int,int,int):int" + BAD_ARGUMENT, "read(int,int,int,int):int" + BAD_ARGUMENT + BAD_INDEX,
        "remove(int,int,int):int" + BAD_ARGUMENT + BAD_INDEX, "status(int):int" + BAD_ARGUMENT,
        "custodians(int):int" + BAD_ARGUMENT, "promise(int):int" + BAD_ARGUMENT,
        "best(int,int,int):int" + BAD_ARGUMENT, "store(int,int):int" + BAD_ARGUMENT};

    public static void main(String[] args) {
        newObject();
        objectsAreApart();
        members();
        callsTakeNoRoom();
        check.end();
    }

    private static void newObject() {
        VillageMail mail = new VillageMail();
        for (int i = 0; i < 12; i++) {
            check.due("room", i < 8 ? 24 : 10, mail.store(i, 0));
            check.due("timetable 0", 0, mail.store(i, 1));
            check.due("no expired letters", 0, mail.store(i, 2));
            check.due("no refusals", 0, mail.store(i, 3));
        }
        for (int i = 0; i < 24; i++) {
            check.due("no letters", 0, mail.box(i / 3, i % 3, 0));
            check.due("not open", -1, mail.box(i / 3, i % 3, 2));
        }
        for (int i = 0; i < 64; i++) {
            check.due("no way", i / 8 == i % 8 ? 9 : -1, mail.best(i / 8, i % 8, 9));
        }
        check.badArgument("no text", () -> mail.post(0, 0, 0, 0));
        check.badArgument("no letter", () -> mail.status(0));
        check.due("no stops", 1, mail.stop(8, 0, 0));
        check.due("none published", 1, mail.publish());
        check.due("minute 0", 1, mail.minute(1));
    }

    private static void objectsAreApart() {
        VillageMail one = new VillageMail();
        VillageMail other = new VillageMail();
        one.stop(8, 0, 0);
        one.publish();
        one.key(1);
        one.household(0, 0, 5);
        one.minute(5);
        check.due("no stops", 1, other.stop(8, 0, 0));
        check.due("none published", 0, other.store(0, 1));
        check.badArgument("no text", () -> other.post(0, 0, 0, 0));
        check.due("not open", -1, other.box(0, 0, 2));
        check.due("minute 0", 1, other.minute(1));
    }

    private static void members() {
        int mods = VillageMail.class.getModifiers();
        check.due("public and final", true, Modifier.isPublic(mods) && Modifier.isFinal(mods));
        Set<String> face = new TreeSet<>();
        Set<String> names = new TreeSet<>();
        Set<String> hidden = new TreeSet<>();
        for (Method m : VillageMail.class.getDeclaredMethods()) {
            if (Modifier.isPrivate(m.getModifiers())) {
                hidden.add(m.getName());
                continue;
            }
            names.add(m.getName());
            StringBuilder types = new StringBuilder();
            for (Class<?> type : m.getParameterTypes()) {
                types.append(types.length() == 0 ? "" : ",").append(type.getName());
            }
            StringBuilder told = new StringBuilder(m.getName() + "(" + types + "):" + m.getReturnType().getName());
            for (Class<?> thrown : m.getExceptionTypes()) {
                told.append(' ').append(thrown.getSimpleName());
            }
            face.add(told.toString());
        }
        check.due("the face " + face, true, face.equals(new TreeSet<>(Arrays.asList(FACE))));
        names.retainAll(hidden);
        check.due("private methods with a public one's name " + names, true, names.isEmpty());
        Constructor<?>[] made = VillageMail.class.getDeclaredConstructors();
        check.due("one constructor", 1, made.length);
        check.due("without parameters", 0, made[0].getParameterCount());
        check.due("public", true, Modifier.isPublic(made[0].getModifiers()));
        for (Field f : VillageMail.class.getDeclaredFields()) {
            check.due("private " + f.getName(), true, Modifier.isPrivate(f.getModifiers()));
        }
    }

    /** All calls of a run live in one room: what a call makes would stay there. */
    private static void callsTakeNoRoom() {
        com.sun.management.ThreadMXBean threads =
            (com.sun.management.ThreadMXBean) ManagementFactory.getThreadMXBean();
        busyRun(Scenes.line());
        VillageMail mail = Scenes.line();
        long before = threads.getCurrentThreadAllocatedBytes();
        int answers = busyRun(mail);
        long taken = threads.getCurrentThreadAllocatedBytes() - before;
        check.due("room taken by " + answers + " (" + taken + " bytes)", true, taken < 20000);
    }

    private static int busyRun(VillageMail mail) {
        int answers = 0;
        mail.household(1, 0, 200);
        for (int i = 0; i < 60; i++) {
            Scenes.type(mail, 2);
            if (i < 16) {
                mail.post(0, i % 3, i % 5, i % 3);
            }
            answers += mail.minute(50);
            answers += mail.meet(8, i % 3, 3);
            answers += mail.breakOff(9, i % 3, 3);
            answers += mail.best(0, 2, i) + mail.store(8, 0) + mail.custodians(0) + mail.status(0);
        }
        return answers;
    }
}
