import java.util.NoSuchElementException;
import java.util.Random;

/** All promises: long runs of calls, seeded, on the program and on the plain model side by side. */
public final class ModelTest {
    private static final int RUNS = 500;
    private static final int CALLS = 320;
    private static final String[] NAMES = {
        "stop", "cancel", "publish", "household", "group", "key", "post", "minute", "meet", "breakOff", "reboot",
        "spoil", "box", "read", "remove", "status", "custodians", "promise", "best", "store"};
    /** How often each call is made, by its place in NAMES. */
    private static final int[] OFTEN = {3, 1, 1, 7, 4, 4, 7, 12, 34, 10, 2, 2, 1, 2, 3, 1, 1, 1, 3, 1};

    private static final Random random = new Random(20261115);
    private static int kiosks;
    private static int buses;
    private static int span;
    private static int burst;
    private static int keysToType;

    public static void main(String[] args) {
        int[] made = new int[NAMES.length];
        int[] thrown = new int[NAMES.length];
        int[] moved = new int[2];
        int[] ends = new int[4];
        int refusals = 0;
        for (int run = 0; run < RUNS; run++) {
            kiosks = 2 + random.nextInt(1 + random.nextInt(7));
            buses = 1 + random.nextInt(4);
            span = random.nextInt(3) == 0 ? 10080 : 300;
            burst = random.nextBoolean() ? 24 : 8;
            keysToType = 0;
            VillageMail mail = new VillageMail();
            PlainMail plain = new PlainMail();
            StringBuilder story = new StringBuilder();
            for (int call = 0; call < CALLS; call++) {
                int[] c = call < 12 + run % 13 ? stopCall() : call == 26 ? new int[] {2} : anyCall(plain);
                if (call == 27 && run % 3 == 0) {
                    story.append("a crowd of letters\n");
                    crowd(mail, plain);
                }
                story.append(NAMES[c[0]]).append(java.util.Arrays.toString(java.util.Arrays.copyOfRange(c, 1, c.length)));
                long want = answer(plain, c);
                long got = answer(mail, c);
                story.append(" = ").append(got).append('\n');
                made[c[0]]++;
                thrown[c[0]] += want < -1000 ? 1 : 0;
                moved[0] += c[0] == 8 && want > 0 ? 1 : 0;
                moved[1] += c[0] == 9 && want > 0 ? 1 : 0;
                String differs = got != want ? "answer, due is " + want : difference(mail, plain);
                if (differs != null) {
                    System.out.println("run " + run + "\n" + story + "differs: " + differs);
                    System.exit(1);
                }
            }
            for (int i = 0; i < 16; i++) {
                long status = answer(mail, new int[] {15, i});
                if (status >= 0) {
                    ends[(int) status]++;
                }
            }
            for (int i = 0; i < 12; i++) {
                refusals += mail.store(i, 3);
            }
        }
        for (int i = 0; i < NAMES.length; i++) {
            System.out.print(NAMES[i] + " " + made[i] + " (" + thrown[i] + " thrown) ");
        }
        System.out.println("\npieces moved in " + moved[0] + " meetings and " + moved[1] + " that broke off, " + refusals + " refusals; letters under way "
            + ends[0] + ", delivered " + ends[1] + ", damaged " + ends[2] + ", expired " + ends[3]);
    }

    /** Long letters from two kiosks, so that stores get full. */
    private static void crowd(VillageMail mail, PlainMail plain) {
        for (int i = 0; i < 9; i++) {
            for (int k = 0; k < 20; k++) {
                int b = random.nextInt(256);
                mail.key(b);
                plain.key(b);
            }
            int[] call = {6, random.nextInt(2), random.nextInt(kiosks), random.nextInt(3), random.nextInt(3)};
            answer(plain, call);
            answer(mail, call);
        }
    }

    private static int[] stopCall() {
        return new int[] {0, bus(), kiosk(), random.nextInt(span)};
    }

    private static int[] anyCall(PlainMail plain) {
        if (keysToType > 0) {
            keysToType--;
            return arguments(5);
        }
        int total = 0;
        for (int often : OFTEN) {
            total += often;
        }
        int pick = random.nextInt(total);
        int name = 0;
        while (pick >= OFTEN[name]) {
            pick -= OFTEN[name];
            name++;
        }
        keysToType = name == 5 ? random.nextInt(burst) : 0;
        return aimed(plain, arguments(name));
    }

    /** What is drawn blindly seldom hits a copy or a letter in a box: so draw again for a while. */
    private static int[] aimed(PlainMail plain, int[] drawn) {
        int[] call = drawn;
        for (int i = 0; i < 300 && misses(plain, call); i++) {
            call = arguments(call[0]);
        }
        return call;
    }

    private static boolean misses(PlainMail plain, int[] c) {
        if (c[0] == 11) {
            return answer(plain, new int[] {11, c[1], c[2], c[3], c[4], 0}) < 0;
        }
        return (c[0] == 13 || c[0] == 14) && answer(plain, new int[] {13, c[1], c[2], c[3], 0}) < 0;
    }

    private static int[] arguments(int name) {
        switch (name) {
            case 0: return stopCall();
            case 1: return new int[] {1, bus(), random.nextInt(span)};
            case 2: return random.nextInt(3) == 0 ? new int[] {2} : meeting(8);
            case 3: return new int[] {3, kiosk(), odd(3), random.nextInt(3) == 0 ? odd(201) : odd(40)};
            case 4: return new int[] {4, kiosk(), odd(2), odd(3)};
            case 5: return new int[] {5, random.nextInt(600) - 100};
            case 6: return new int[] {6, kiosk(), kiosk(), odd(5), odd(3)};
            case 7: return new int[] {7, random.nextInt(45) == 0 ? odd(20001) : odd(60)};
            case 8: return meeting(8);
            case 9: return meeting(9);
            case 10: return new int[] {10, odd(12)};
            case 11: return new int[] {11, odd(12), odd(8), odd(4), odd(8), random.nextInt(600) - 100};
            case 12: return new int[] {12, kiosk(), odd(3), odd(3)};
            case 13: return new int[] {13, kiosk(), odd(3), odd(3), odd(32)};
            case 14: return new int[] {14, kiosk(), odd(3), odd(3)};
            case 15: case 16: case 17: return new int[] {name, odd(16)};
            case 18: return new int[] {18, kiosk(), kiosk(), odd(random.nextBoolean() ? 30000 : 2000000001)};
            default: return new int[] {19, odd(12), odd(4)};
        }
    }

    private static int[] meeting(int name) {
        return new int[] {name, bus(), kiosk(), random.nextInt(3) == 0 ? odd(4) : odd(41)};
    }

    private static int kiosk() {
        return random.nextInt(60) == 0 ? odd(8) : random.nextInt(kiosks);
    }

    private static int bus() {
        return random.nextInt(60) == 0 ? 8 + odd(4) : 8 + random.nextInt(buses);
    }

    /** Mostly 0 .. n - 1, now and then just outside. */
    private static int odd(int n) {
        int kind = random.nextInt(50);
        return kind == 0 ? -1 : kind == 1 ? n : random.nextInt(n);
    }

    private static long thrown(RuntimeException e) {
        if (e.getClass() == IllegalArgumentException.class) {
            return -1001;
        }
        if (e.getClass() == IllegalStateException.class) {
            return -1002;
        }
        if (e.getClass() == IndexOutOfBoundsException.class) {
            return -1003;
        }
        if (e.getClass() == NoSuchElementException.class) {
            return -1004;
        }
        e.printStackTrace(System.out);
        return -1005;
    }

    private static long answer(VillageMail m, int[] c) {
        try {
            switch (c[0]) {
                case 0: return m.stop(c[1], c[2], c[3]);
                case 1: return m.cancel(c[1], c[2]) ? 1 : 0;
                case 2: return m.publish();
                case 3: m.household(c[1], c[2], c[3]); return 0;
                case 4: return m.group(c[1], c[2], c[3]) ? 1 : 0;
                case 5: return m.key(c[1]) ? 1 : 0;
                case 6: return m.post(c[1], c[2], c[3], c[4]);
                case 7: return m.minute(c[1]);
                case 8: return m.meet(c[1], c[2], c[3]);
                case 9: return m.breakOff(c[1], c[2], c[3]);
                case 10: m.reboot(c[1]); return 0;
                case 11: return m.spoil(c[1], c[2], c[3], c[4], c[5]);
                case 12: return m.box(c[1], c[2], c[3]);
                case 13: return m.read(c[1], c[2], c[3], c[4]);
                case 14: return m.remove(c[1], c[2], c[3]);
                case 15: return m.status(c[1]);
                case 16: return m.custodians(c[1]);
                case 17: return m.promise(c[1]);
                case 18: return m.best(c[1], c[2], c[3]);
                default: return m.store(c[1], c[2]);
            }
        } catch (RuntimeException e) {
            return thrown(e);
        }
    }

    private static long answer(PlainMail m, int[] c) {
        try {
            switch (c[0]) {
                case 0: return m.stop(c[1], c[2], c[3]);
                case 1: return m.cancel(c[1], c[2]) ? 1 : 0;
                case 2: return m.publish();
                case 3: m.household(c[1], c[2], c[3]); return 0;
                case 4: return m.group(c[1], c[2], c[3]) ? 1 : 0;
                case 5: return m.key(c[1]) ? 1 : 0;
                case 6: return m.post(c[1], c[2], c[3], c[4]);
                case 7: return m.minute(c[1]);
                case 8: return m.meet(c[1], c[2], c[3]);
                case 9: return m.breakOff(c[1], c[2], c[3]);
                case 10: m.reboot(c[1]); return 0;
                case 11: return m.spoil(c[1], c[2], c[3], c[4], c[5]);
                case 12: return m.box(c[1], c[2], c[3]);
                case 13: return m.read(c[1], c[2], c[3], c[4]);
                case 14: return m.remove(c[1], c[2], c[3]);
                case 15: return m.status(c[1]);
                case 16: return m.custodians(c[1]);
                case 17: return m.promise(c[1]);
                case 18: return m.best(c[1], c[2], c[3]);
                default: return m.store(c[1], c[2]);
            }
        } catch (RuntimeException e) {
            return thrown(e);
        }
    }

    private static String difference(VillageMail mail, PlainMail plain) {
        for (int i = 0; i < 12; i++) {
            for (int what = 0; what < 4; what++) {
                if (differ(mail, plain, 19, i, what)) {
                    return "store(" + i + ", " + what + ")";
                }
            }
        }
        for (int i = 0; i < 16; i++) {
            for (int call = 15; call < 18; call++) {
                if (differ(mail, plain, call, i)) {
                    return NAMES[call] + "(" + i + ")";
                }
            }
        }
        for (int kiosk = 0; kiosk < 8; kiosk++) {
            for (int box = 0; box < 3; box++) {
                String found = differenceOfBox(mail, plain, kiosk, box);
                if (found != null) {
                    return found;
                }
            }
        }
        return null;
    }

    private static String differenceOfBox(VillageMail mail, PlainMail plain, int kiosk, int box) {
        for (int what = 0; what < 3; what++) {
            if (differ(mail, plain, 12, kiosk, box, what)) {
                return "box(" + kiosk + ", " + box + ", " + what + ")";
            }
        }
        for (int k = 0; k < plain.box(kiosk, box, 0); k++) {
            for (int i = 0; i < 33; i++) {
                if (differ(mail, plain, 13, kiosk, box, k, i)) {
                    return "read(" + kiosk + ", " + box + ", " + k + ", " + i + ")";
                }
            }
        }
        return null;
    }

    private static boolean differ(VillageMail mail, PlainMail plain, int... call) {
        return answer(mail, call) != answer(plain, call);
    }
}
