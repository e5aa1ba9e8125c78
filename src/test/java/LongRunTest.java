import java.lang.reflect.Method;
import java.util.Arrays;
import java.util.Random;

/** The 512 calls that an object is good for; behind them answers are free, but nothing is thrown that no call names. */
public final class LongRunTest {
    private static final Check check = new Check();
    private static final Random random = new Random(512);
    private static final int[] WILD = {Integer.MIN_VALUE, Integer.MIN_VALUE + 1, -10080, -1, 41, 200, 201, 10079, 10080,
        20000, 20001, 2000000000, 2000000001, Integer.MAX_VALUE - 20160, Integer.MAX_VALUE};

    private static final String[] NAMES = {"stop", "cancel", "publish", "household", "group", "key", "post", "minute",
        "meet", "breakOff", "reboot", "spoil", "box", "read", "remove", "status", "custodians", "promise", "best",
        "store"};

    public static void main(String[] args) {
        theLatestMinute();
        theLastCall();
        manyRefusals();
        wildArguments();
        clockBeyondAllNumbers();
        check.end();
    }

    private static void theLatestMinute() {
        VillageMail mail = new VillageMail();
        for (int call = 1; call <= 512; call++) {
            check.due("call " + call, 20000 * call, mail.minute(20000));
        }
    }

    private static void theLastCall() {
        VillageMail mail = Scenes.line();
        mail.household(1, 0, 32);
        for (int call = 6; call <= 508; call++) {
            mail.minute(20000);
        }
        int now = 503 * 20000;
        mail.key(9);
        mail.post(0, 1, 0, 0);
        mail.meet(8, 0, 1);
        int week = now - now % 10080;
        check.due("call 512", week + (now % 10080 > 100 ? 10080 : 0) + 200, mail.promise(0));
    }

    /** A full bus refuses what a kiosk offers, 400 times: with all others no more than 512 calls. */
    private static void manyRefusals() {
        VillageMail mail = new VillageMail();
        mail.stop(8, 1, 100);
        mail.publish();
        Scenes.post(mail, 32, 0, 1, 0, 0);
        Scenes.post(mail, 32, 0, 1, 0, 0);
        Scenes.post(mail, 32, 0, 1, 0, 0);
        for (int call = 0; call < 400; call++) {
            mail.meet(8, 0, 40);
        }
        check.due("two each time", 800, mail.store(8, 3));
        check.due("room", 0, mail.store(8, 0));
    }

    private static void wildArguments() {
        for (int run = 0; run < 200; run++) {
            VillageMail mail = Scenes.line();
            for (int call = 0; call < 2000; call++) {
                makeQuietly(mail, random.nextInt(20));
            }
        }
    }

    private static void clockBeyondAllNumbers() {
        VillageMail mail = Scenes.line();
        for (int call = 0; call < 120000; call++) {
            mail.minute(20000);
            if (call % 10 == 0) {
                makeQuietly(mail, 5);
                makeQuietly(mail, 6);
                makeQuietly(mail, 8);
                makeQuietly(mail, 9);
            }
        }
    }

    /** Whatever the arguments are, a call throws nothing that it does not name. */
    private static void makeQuietly(VillageMail mail, int kind) {
        try {
            make(mail, kind);
        } catch (RuntimeException e) {
            check.due(NAMES[kind] + " throws " + e.getClass().getName(), true, names(NAMES[kind], e.getClass()));
        }
    }

    private static boolean names(String call, Class<?> thrown) {
        for (Method method : VillageMail.class.getDeclaredMethods()) {
            if (method.getName().equals(call)) {
                return Arrays.asList(method.getExceptionTypes()).contains(thrown);
            }
        }
        return false;
    }

    private static void make(VillageMail mail, int kind) {
        switch (kind) {
            case 0: mail.stop(8 + any(4), any(8), any(10080)); break;
            case 1: mail.cancel(8 + any(4), any(10080)); break;
            case 2: mail.publish(); break;
            case 3: mail.household(any(8), any(3), any(201)); break;
            case 4: mail.group(any(8), any(2), any(3)); break;
            case 5: mail.key(any(256)); break;
            case 6: mail.post(any(8), any(8), any(5), any(3)); break;
            case 7: mail.minute(any(3000)); break;
            case 8: mail.meet(8 + any(4), any(8), any(41)); break;
            case 9: mail.breakOff(8 + any(4), any(8), any(41)); break;
            case 10: mail.reboot(any(12)); break;
            case 11: mail.spoil(any(12), any(16), any(4), any(8), any(256)); break;
            case 12: mail.box(any(8), any(3), any(3)); break;
            case 13: mail.read(any(8), any(3), any(2), any(32)); break;
            case 14: mail.remove(any(8), any(3), any(2)); break;
            case 15: mail.status(any(16)); break;
            case 16: mail.custodians(any(16)); break;
            case 17: mail.promise(any(16)); break;
            case 18: mail.best(any(8), any(8), any(2000000001)); break;
            default: mail.store(any(12), any(4)); break;
        }
    }

    private static int any(int bound) {
        return random.nextInt(20) == 0 ? WILD[random.nextInt(WILD.length)] : random.nextInt(bound);
    }
}
