/** Beginnings that several tests share. */
final class Scenes {
    private Scenes() {
    }

    static int post(VillageMail mail, int length, int kiosk, int goal, int box, int sort) {
        type(mail, length);
        return mail.post(kiosk, goal, box, sort);
    }

    static void type(VillageMail mail, int length) {
        for (int i = 0; i < length; i++) {
            mail.key(i + 1);
        }
    }

    /** Bus 8 from kiosk 0 at minute 100 by kiosk 1 at 200 to kiosk 2 at 300, published and held by kiosk 0. */
    static VillageMail line() {
        VillageMail mail = new VillageMail();
        mail.stop(8, 0, 100);
        mail.stop(8, 1, 200);
        mail.stop(8, 2, 300);
        mail.publish();
        return mail;
    }

    /** A letter of so many bytes from kiosk 0 to a box of kiosk 1, by the line, at minute 200 on bus 8. */
    static VillageMail onTheWay(int length, int box) {
        VillageMail mail = line();
        post(mail, length, 0, 1, box, 1);
        mail.minute(100);
        mail.meet(8, 0, 40);
        mail.minute(100);
        return mail;
    }
}
