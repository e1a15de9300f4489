/** Drives that stand at an edge, for the tests that begin there. */
final class Drives {
    static final int MOST_ORDERS = 40;
    static final int LAST_TICK = 9999;
    static final int LONGEST_TEXT = 150;

    private Drives() {
    }

    /** Forty orders are told, each writes its number + 1 into a block; the tags are 0 0 to 0 31 and 1 0 to 1 7. */
    static WokenDrive full() {
        WokenDrive drive = new WokenDrive();
        tellForty(drive);
        return drive;
    }

    static void tellForty(WokenDrive drive) {
        for (int order = 0; order < MOST_ORDERS; order++) {
            drive.order(order / 32, order % 32, 0, order % 16, order + 1);
        }
    }

    /** Four orders; the number of each is that of its host, and the number of its tag is 31. */
    static WokenDrive ofEveryHost() {
        WokenDrive drive = new WokenDrive();
        for (int host = 0; host < 4; host++) {
            drive.order(host, 31, 0, 0, 0);
        }
        return drive;
    }

    static WokenDrive asleep() {
        WokenDrive drive = new WokenDrive();
        drive.sleep(0);
        drive.sleep(1);
        return drive;
    }

    static WokenDrive atTick(int tick) {
        WokenDrive drive = new WokenDrive();
        passTo(drive, tick);
        return drive;
    }

    static void passTo(WokenDrive drive, int tick) {
        for (int now = drive.whole(5); now < tick; now += 50) {
            drive.pass(Math.min(50, tick - now));
        }
    }

    /** One order, 0 0, adds 7 to block 1, which was 100; controller 0 fell asleep after so many steps of it. */
    static WokenDrive torn(int steps) {
        WokenDrive drive = new WokenDrive();
        drive.order(3, 31, 0, 1, 100);
        drive.pass(1);
        drive.order(0, 0, 1, 1, 7);
        drive.work(0, steps);
        return drive;
    }

    static WokenDrive withFullText() {
        WokenDrive drive = new WokenDrive();
        Check.type(drive, " ".repeat(LONGEST_TEXT));
        return drive;
    }

    /** As many calls that save a state as are asked for; each changes the delay of controller 0, from 0 to 1, 2 .. */
    static WokenDrive withSaved(int calls) {
        WokenDrive drive = new WokenDrive();
        for (int call = 1; call <= calls; call++) {
            drive.setDelay(0, call);
        }
        return drive;
    }
}
