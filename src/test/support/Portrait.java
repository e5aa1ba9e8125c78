/** What can be seen of an object, as a text, so that two objects can be held against each other. */
final class Portrait {
    interface Call {
        Object make();
    }

    private final VillageMail mail;
    private final StringBuilder seen = new StringBuilder();

    private Portrait(VillageMail mail) {
        this.mail = mail;
    }

    /** By questions alone: the object stays as it is. */
    static String of(VillageMail mail) {
        Portrait portrait = new Portrait(mail);
        portrait.askAll();
        return portrait.seen.toString();
    }

    /** Goes on with the object, as the text in hand, the stops, the clock and the news of stores show in no question. */
    static String ofWhatFollows(VillageMail mail) {
        Portrait portrait = new Portrait(mail);
        portrait.goOn();
        return portrait.seen.toString();
    }

    private void askAll() {
        for (int i = 0; i < 12; i++) {
            for (int what = 0; what < 4; what++) {
                add("store", mail.store(i, what));
            }
        }
        for (int i = 0; i < 16; i++) {
            int letter = i;
            add("status", answer(() -> mail.status(letter)));
            add("custodians", answer(() -> mail.custodians(letter)));
            add("promise", answer(() -> mail.promise(letter)));
        }
        for (int i = 0; i < 24; i++) {
            askBox(i / 3, i % 3);
        }
        askRides(0);
        askRides(5000);
    }

    private void askBox(int kiosk, int box) {
        for (int what = 0; what < 3; what++) {
            add("box", mail.box(kiosk, box, what));
        }
        for (int k = 0; k < mail.box(kiosk, box, 0); k++) {
            for (int i = 0; i < 33; i++) {
                int letter = k;
                int at = i;
                add("read", answer(() -> mail.read(kiosk, box, letter, at)));
            }
        }
    }

    private void askRides(int minute) {
        for (int i = 0; i < 64; i++) {
            add("best", mail.best(i / 8, i % 8, minute));
        }
    }

    private void goOn() {
        add("key", mail.key(77));
        mail.household(7, 2, 200);
        add("post", answer(() -> mail.post(7, 7, 2, 1)));
        askBox(7, 2);
        add("stop", answer(() -> mail.stop(11, 6, 9999)));
        add("publish", answer(mail::publish));
        askRides(0);
        for (int round = 0; round < 2; round++) {
            for (int i = 0; i < 32; i++) {
                add("meet", mail.meet(8 + i % 4, i / 4, 2));
            }
            askAll();
            add("minute", mail.minute(50));
        }
        add("minute", mail.minute(7000));
        askAll();
    }

    private void add(String what, Object answer) {
        seen.append(what).append(' ').append(answer).append('\n');
    }

    private static Object answer(Call call) {
        try {
            return call.make();
        } catch (RuntimeException e) {
            return e.getClass().getName();
        }
    }
}
