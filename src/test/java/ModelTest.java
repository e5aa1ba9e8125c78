import java.lang.reflect.InvocationTargetException;
import java.lang.reflect.Method;
import java.util.Arrays;
import java.util.Random;
import java.util.TreeMap;

/** All promises: long runs of calls, seeded, on the program and on the plain model side by side. */
public final class ModelTest {
    private static final int RUNS = 400;
    private static final int CALLS = 320;
    private static final int LONG_RUNS = 60;
    private static final int MOST_CALLS = 512;
    private static final long THROWN = -1000;

    private static final Random random = new Random(20261115);
    private static final TreeMap<String, int[]> tally = new TreeMap<>();
    private static final int[] ends = new int[4];
    private static int moved;
    private static int refusals;

    /** A call's name, with how often it is made beside the others. */
    private enum Kind {
        stop(3), cancel(1), publish(1), household(7), group(4), key(4), post(7), minute(12), meet(34), breakOff(10),
        reboot(2), spoil(2), box(1), read(2), remove(3), status(1), custodians(1), promise(1), best(3), store(1);

        private static final Kind[] ALL = values();
        private final int often;
        private final Method ofProgram;
        private final Method ofModel;

        Kind(int often) {
            this.often = often;
            ofProgram = find(VillageMail.class, name());
            ofModel = find(PlainMail.class, name());
        }

        private static Method find(Class<?> where, String name) {
            return Arrays.stream(where.getDeclaredMethods()).filter(m -> m.getName().equals(name)).findFirst().get();
        }
    }

    private final VillageMail mail = new VillageMail();
    private final PlainMail plain = new PlainMail();
    private final StringBuilder story = new StringBuilder();
    private final int kiosks = 2 + random.nextInt(1 + random.nextInt(7));
    private final int buses = 1 + random.nextInt(4);
    private final int span = random.nextInt(3) == 0 ? 10080 : 300;
    private final int burst = random.nextBoolean() ? 24 : 8;
    private final boolean looksAtAll;
    private int keysToType = 0;

    private ModelTest(boolean looksAtAll) {
        this.looksAtAll = looksAtAll;
    }

    public static void main(String[] args) {
        for (int run = 0; run < RUNS; run++) {
            new ModelTest(true).go(run);
        }
        for (int run = 0; run < LONG_RUNS; run++) {
            new ModelTest(false).goToTheEnd(run);
        }
        tally.forEach((name, counts) -> System.out.print(name + " " + counts[0] + " (" + counts[1] + " thrown) "));
        System.out.println("\npieces moved " + moved + ", refusals " + refusals + "; letters under way " + ends[0]
            + ", delivered " + ends[1] + ", damaged " + ends[2] + ", expired " + ends[3]);
    }

    private void go(int run) {
        begin(run);
        if (run % 3 == 0) {
            postCrowd();
        }
        for (int call = 0; call < CALLS; call++) {
            makeAnyCall();
        }
        for (int i = 0; i < 16 && answer(Kind.status, true, i) >= 0; i++) {
            ends[mail.status(i)]++;
        }
        for (int i = 0; i < 12; i++) {
            refusals += mail.store(i, 3);
        }
    }

    /** As many calls as an object is good for, no question beside them: so also the last ones have to be right. */
    private void goToTheEnd(int run) {
        int made = begin(run);
        while (made < MOST_CALLS) {
            makeAnyCall();
            made++;
        }
    }

    private int begin(int run) {
        int stops = 12 + run % 13;
        for (int i = 0; i < stops; i++) {
            make(Kind.stop, arguments(Kind.stop));
        }
        make(Kind.publish, new int[0]);
        return stops + 1;
    }

    /** Long letters from two kiosks, so that stores get full. */
    private void postCrowd() {
        for (int i = 0; i < 9; i++) {
            for (int k = 0; k < 20; k++) {
                int b = random.nextInt(256);
                mail.key(b);
                plain.key(b);
            }
            int[] letter = {random.nextInt(2), random.nextInt(kiosks), random.nextInt(3), random.nextInt(3)};
            make(Kind.post, letter);
        }
    }

    private void makeAnyCall() {
        if (keysToType > 0) {
            keysToType--;
            make(Kind.key, arguments(Kind.key));
            return;
        }
        Kind kind = anyKind();
        keysToType = kind == Kind.key ? random.nextInt(burst) : 0;
        make(kind, aimed(kind));
    }

    private void make(Kind kind, int[] a) {
        long want = answer(kind, false, a);
        long got = answer(kind, true, a);
        story.append(kind.name()).append(Arrays.toString(a)).append(" = ").append(got).append('\n');
        int[] counts = tally.computeIfAbsent(kind.name(), k -> new int[2]);
        counts[0]++;
        counts[1] += want <= THROWN ? 1 : 0;
        moved += (kind == Kind.meet || kind == Kind.breakOff) && want > 0 ? want : 0;
        String differs = got != want ? "answer, due is " + want : looksAtAll ? difference() : null;
        if (differs != null) {
            System.out.println(story + "differs: " + differs);
            System.exit(1);
        }
    }

    private long answer(Kind kind, boolean byProgram, int... a) {
        Object[] boxed = Arrays.stream(a).boxed().toArray();
        try {
            Object got = byProgram ? kind.ofProgram.invoke(mail, boxed) : kind.ofModel.invoke(plain, boxed);
            if (got instanceof Boolean) {
                return (Boolean) got ? 1 : 0;
            }
            return got == null ? 0 : (Integer) got;
        } catch (InvocationTargetException e) {
            return thrown(e.getCause());
        } catch (IllegalAccessException e) {
            throw new IllegalStateException(e);
        }
    }

    private static long thrown(Throwable e) {
        String[] allowed = {"IllegalArgumentException", "IllegalStateException", "IndexOutOfBoundsException",
            "NoSuchElementException"};
        int at = Arrays.asList(allowed).indexOf(e.getClass().getSimpleName());
        if (at < 0) {
            e.printStackTrace(System.out);
        }
        return THROWN - 2 - at;
    }

    private static Kind anyKind() {
        int pick = random.nextInt(Arrays.stream(Kind.ALL).mapToInt(k -> k.often).sum());
        int at = 0;
        while (pick >= Kind.ALL[at].often) {
            pick -= Kind.ALL[at].often;
            at++;
        }
        return Kind.ALL[at];
    }

    /** What is drawn blindly seldom hits a copy or a letter in a box: so it is drawn again for a while. */
    private int[] aimed(Kind kind) {
        int[] a = arguments(kind);
        for (int i = 0; i < 300 && misses(kind, a); i++) {
            a = arguments(kind);
        }
        return a;
    }

    private boolean misses(Kind kind, int[] a) {
        if (kind == Kind.spoil) {
            return answer(kind, false, a[0], a[1], a[2], a[3], 0) < 0;
        }
        return (kind == Kind.read || kind == Kind.remove) && answer(Kind.read, false, a[0], a[1], a[2], 0) < 0;
    }

    private int[] arguments(Kind kind) {
        switch (kind) {
            case stop: return new int[] {bus(), kiosk(), random.nextInt(span)};
            case cancel: return new int[] {bus(), random.nextInt(span)};
            case publish: return new int[0];
            case household: return new int[] {kiosk(), odd(3), random.nextInt(3) == 0 ? odd(201) : odd(40)};
            case group: return new int[] {kiosk(), odd(2), odd(3)};
            case key: return new int[] {random.nextInt(600) - 100};
            case post: return new int[] {kiosk(), kiosk(), odd(5), odd(3)};
            case minute: return new int[] {random.nextInt(45) == 0 ? odd(20001) : odd(60)};
            case meet: case breakOff:
                return new int[] {bus(), kiosk(), random.nextInt(3) == 0 ? odd(4) : odd(41)};
            case reboot: return new int[] {odd(12)};
            case spoil: return new int[] {odd(12), odd(8), odd(4), odd(8), random.nextInt(600) - 100};
            case read: return new int[] {kiosk(), odd(3), odd(3), odd(32)};
            case box: case remove: return new int[] {kiosk(), odd(3), odd(3)};
            case best: return new int[] {kiosk(), kiosk(), odd(random.nextBoolean() ? 30000 : 2000000001)};
            case store: return new int[] {odd(12), odd(4)};
            default: return new int[] {odd(16)};
        }
    }

    private int kiosk() {
        return random.nextInt(60) == 0 ? odd(8) : random.nextInt(kiosks);
    }

    private int bus() {
        return random.nextInt(60) == 0 ? 8 + odd(4) : 8 + random.nextInt(buses);
    }

    /** Mostly 0 .. n - 1, now and then just outside. */
    private static int odd(int n) {
        int kind = random.nextInt(50);
        return kind == 0 ? -1 : kind == 1 ? n : random.nextInt(n);
    }

    private String difference() {
        for (int i = 0; i < 12; i++) {
            for (int what = 0; what < 4; what++) {
                if (mail.store(i, what) != plain.store(i, what)) {
                    return "store(" + i + ", " + what + ")";
                }
            }
        }
        for (int i = 0; i < plain.letters(); i++) {
            if (mail.status(i) != plain.status(i) || mail.custodians(i) != plain.custodians(i)
                    || mail.promise(i) != plain.promise(i)) {
                return "status, custodians or promise of " + i;
            }
        }
        for (int i = 0; i < 24; i++) {
            if (boxDiffers(i / 3, i % 3)) {
                return "box " + i % 3 + " of kiosk " + i / 3;
            }
        }
        return null;
    }

    private boolean boxDiffers(int kiosk, int box) {
        for (int what = 0; what < 3; what++) {
            if (mail.box(kiosk, box, what) != plain.box(kiosk, box, what)) {
                return true;
            }
        }
        for (int k = 0; k < plain.box(kiosk, box, 0); k++) {
            for (int i = 0; i < 33; i++) {
                if (answer(Kind.read, true, kiosk, box, k, i) != answer(Kind.read, false, kiosk, box, k, i)) {
                    return true;
                }
            }
        }
        return false;
    }
}
