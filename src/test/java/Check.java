import java.util.function.Supplier;

/** What the tests say of answers and exceptions; a check that does not hold throws an AssertionError. */
final class Check {
    static final Class<IndexOutOfBoundsException> INDEX = IndexOutOfBoundsException.class;
    static final Class<IllegalArgumentException> ARGUMENT = IllegalArgumentException.class;
    static final Class<IllegalStateException> STATE = IllegalStateException.class;

    interface Call {
        long answer();
    }

    /** A call on a drive with the one argument that is tried. */
    interface Trial {
        long answer(WokenDrive drive, int value);
    }

    private Check() {
    }

    static void same(String what, long due, long got) {
        if (due != got) {
            throw new AssertionError(what + " is " + got + ", due is " + due);
        }
    }

    static void holds(String what, boolean holds) {
        if (!holds) {
            throw new AssertionError(what + " does not hold");
        }
    }

    /** The call has to throw just this class, and to leave the digest as it was. */
    static void refused(WokenDrive drive, Class<? extends RuntimeException> due, String what, Call call) {
        long before = drive.digest();
        Class<?> got = null;
        try {
            call.answer();
        } catch (RuntimeException e) {
            got = e.getClass();
        }
        if (got != due) {
            throw new AssertionError(what + " threw " + got + ", due is " + due);
        }
        same("digest after the refused " + what, before, drive.digest());
    }

    static void badIndex(WokenDrive drive, String what, Call call) {
        refused(drive, INDEX, what, call);
    }

    static void badArgument(WokenDrive drive, String what, Call call) {
        refused(drive, ARGUMENT, what, call);
    }

    static void badState(WokenDrive drive, String what, Call call) {
        refused(drive, STATE, what, call);
    }

    /**
     * The trial has to answer the value itself for the least and the greatest one, each on a drive of its own, and to
     * be refused just outside and far away.
     */
    static void range(String what, int least, int greatest, Class<? extends RuntimeException> due,
            Supplier<WokenDrive> maker, Trial trial) {
        same(what, least, trial.answer(maker.get(), least));
        same(what, greatest, trial.answer(maker.get(), greatest));
        outside(what, least, greatest, due, maker, trial);
    }

    static void outside(String what, int least, int greatest, Class<? extends RuntimeException> due,
            Supplier<WokenDrive> maker, Trial trial) {
        int[] values = {least - 1, greatest + 1, Integer.MIN_VALUE, Integer.MAX_VALUE};
        for (int value : values) {
            WokenDrive drive = maker.get();
            refused(drive, due, what + " " + value, () -> trial.answer(drive, value));
        }
    }

    static void blocks(WokenDrive drive, long... due) {
        for (int block = 0; block < due.length; block++) {
            same("block " + block, due[block], drive.block(block));
        }
    }

    static void mailbox(WokenDrive drive, int controller, long... due) {
        String name = "mailbox of controller " + controller;
        same("size of the " + name, due.length, drive.controller(controller, 3));
        for (int index = 0; index < due.length; index++) {
            same("place " + index + " of the " + name, due[index], drive.mail(controller, index));
        }
        same("end of the " + name, WokenDrive.NONE, drive.mail(controller, due.length));
    }

    static void orderFacts(WokenDrive drive, int order, long... due) {
        for (int what = 0; what < due.length; what++) {
            same("orderOf(" + order + ", " + what + ")", due[what], drive.orderOf(order, what));
        }
    }

    static void controllerFacts(WokenDrive drive, int controller, long... due) {
        for (int what = 0; what < due.length; what++) {
            same("controller(" + controller + ", " + what + ")", due[what], drive.controller(controller, what));
        }
    }

    static void wholeFacts(WokenDrive drive, long... due) {
        for (int what = 0; what < due.length; what++) {
            same("whole(" + what + ")", due[what], drive.whole(what));
        }
    }

    static void type(WokenDrive drive, String text) {
        for (int index = 0; index < text.length(); index++) {
            drive.type(text.charAt(index));
        }
    }

    /** Types the text in place of the one that stands there, and runs it. */
    static int run(WokenDrive drive, String text) {
        drive.clearCommands();
        type(drive, text);
        return drive.runCommands();
    }
}
