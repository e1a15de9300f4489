import java.util.ArrayList;
import java.util.List;

/** All promises: long runs of calls on a WokenDrive and on a PlainDrive, which have to answer alike. */
final class PlainDriveTests {
    private static final int CALLS = 512;
    private static final String[] PIECES = {
        "put ", "add ", "copy ", "fence ", "cancel ", "wake ", "sleep ", "work ", "delay ", "ticks ", "0", "1", "2",
        "3", "12", "007", "999", "1234", " ", " ", " ", "  ", ";", ";", ";", ";", "x", "pu", "A", "-", "\0", "~",
    };
    private static final String[] WORDS = {
        "put", "add", "copy", "fence", "cancel", "wake", "sleep", "work", "delay", "ticks",
    };
    private static final int[] NUMBERS = {4, 4, 4, 2, 2, 1, 1, 2, 2, 1};

    private final WokenDrive drive = new WokenDrive();
    private final PlainDrive plain = new PlainDrive();
    private final List<String> calls = new ArrayList<>();
    private final int wildness;
    private long seed;

    private PlainDriveTests(long seed, int wildness) {
        this.seed = seed * 7919 + 17;
        this.wildness = wildness;
    }

    static void promiseOrdinaryRunsAnswerAlike() {
        for (int run = 0; run < 250; run++) {
            new PlainDriveTests(run, 40).compareRun();
        }
    }

    static void promiseWildRunsAnswerAlike() {
        for (int run = 0; run < 250; run++) {
            new PlainDriveTests(run + 1000, 4).compareRun();
        }
    }

    static void promiseCommandTextsAnswerAlike() {
        for (int run = 0; run < 3000; run++) {
            new PlainDriveTests(run + 5000, 12).compareTexts();
        }
    }

    private int below(int bound) {
        seed = seed * 6364136223846793005L + 1442695040888963407L;
        return (int) ((seed >>> 33) % bound);
    }

    /** Mostly a number from 0 on and below the bound, sometimes one near its edges or far away. */
    private int pick(int bound) {
        if (below(wildness) != 0) {
            return below(bound);
        }
        int[] odd = {-1, 0, bound - 1, bound, bound + 1, Integer.MAX_VALUE, Integer.MIN_VALUE, -bound};
        return odd[below(odd.length)];
    }

    private void compare(String call, Check.Call due, Check.Call got) {
        calls.add(call);
        String answerDue = answerOf(due);
        String answerGot = answerOf(got);
        if (!answerDue.equals(answerGot)) {
            throw new AssertionError(call + " answered " + answerGot + ", due is " + answerDue + ", after " + calls);
        }
    }

    private static String answerOf(Check.Call call) {
        try {
            return Long.toString(call.answer());
        } catch (RuntimeException e) {
            return e.getClass().getName();
        }
    }

    private void compareRun() {
        int few = 1 + below(16);
        int tags = 1 + below(32);
        for (int made = 0; made < CALLS; made += 2) {
            if (below(2) == 0) {
                compareTelling(few, tags);
            } else if (below(3) != 0) {
                compareChange(tags);
            } else {
                compareQuestion();
            }
            compare("digest", plain::digest, drive::digest);
        }
    }

    private void compareTelling(int few, int tags) {
        int host = pick(4);
        int number = pick(tags);
        int kind = below(12) == 0 ? 3 : pick(3);
        int block = kind == 3 ? below(wildness) == 0 ? 1 : 0 : pick(few);
        int operand = kind == 3 ? below(wildness) == 0 ? 1 : 0 : kind == 2 ? pick(few) : pick(1000) - pick(1000);
        if (below(3) == 0) {
            comparePassOrWork();
        } else {
            compare("order " + host + " " + number + " " + kind + " " + block + " " + operand,
                    () -> plain.order(host, number, kind, block, operand),
                    () -> drive.order(host, number, kind, block, operand));
        }
    }

    private void comparePassOrWork() {
        int one = pick(2);
        int steps = 1 + pick(3);
        int ticks = 1 + pick(below(4) == 0 ? 50 : 2);
        if (below(2) == 0) {
            compare("work " + one + " " + steps, () -> plain.work(one, steps), () -> drive.work(one, steps));
        } else {
            compare("pass " + ticks, () -> plain.pass(ticks), () -> drive.pass(ticks));
        }
    }

    private void compareChange(int tags) {
        int one = pick(2);
        int host = pick(4);
        int number = pick(tags);
        int span = below(2) == 0 ? pick(21) : pick(4);
        switch (below(12)) {
            case 0 -> compare("cancel " + host + " " + number, () -> plain.cancel(host, number),
                    () -> drive.cancel(host, number));
            case 1, 2 -> compare("wake " + one, () -> plain.wake(one), () -> drive.wake(one));
            case 3 -> compare("sleep " + one, () -> plain.sleep(one), () -> drive.sleep(one));
            case 4 -> compare("setDelay " + one + " " + span, () -> plain.setDelay(one, span),
                    () -> drive.setDelay(one, span));
            case 5 -> compare("setAlarm " + one + " " + span, () -> plain.setAlarm(one, span),
                    () -> drive.setAlarm(one, span));
            case 6 -> {
                int lost = below(4) == 0 ? one : 2;
                compare("lose " + lost, () -> plain.lose(lost), () -> drive.lose(lost));
            }
            case 7 -> compare("undo", plain::undo, drive::undo);
            case 8 -> typeSome(below(3) == 0 ? PIECES[below(PIECES.length)] : command());
            case 9 -> compare("run", plain::runCommands, drive::runCommands);
            case 10 -> compare("clear", plain::clearCommands, drive::clearCommands);
            default -> comparePassOrWork();
        }
    }

    private void compareQuestion() {
        int one = pick(2);
        int order = pick(40);
        int what = pick(12);
        int block = pick(16);
        int host = pick(4);
        int number = pick(32);
        switch (below(11)) {
            case 0 -> compare("block", () -> plain.block(block), () -> drive.block(block));
            case 1 -> compare("orderOf", () -> plain.orderOf(order, what), () -> drive.orderOf(order, what));
            case 2 -> compare("orderWith", () -> plain.orderWith(host, number), () -> drive.orderWith(host, number));
            case 3 -> compare("controller", () -> plain.controller(one, what), () -> drive.controller(one, what));
            case 4 -> compare("mail", () -> plain.mail(one, order), () -> drive.mail(one, order));
            case 5 -> compare("whole", () -> plain.whole(what), () -> drive.whole(what));
            case 6 -> compare("waitsFor", () -> plain.waitsFor(order), () -> drive.waitsFor(order));
            case 7 -> compare("depth", () -> plain.depth(order), () -> drive.depth(order));
            case 8 -> compareReasons();
            case 9 -> compare("doneIn", plain::doneIn, drive::doneIn);
            default -> compare("finalValue", () -> plain.finalValue(block), () -> drive.finalValue(block));
        }
    }

    private void compareReasons() {
        for (int each = 0; each < 40; each++) {
            int one = each % 2;
            int order = each;
            compare("reason " + one + " " + order, () -> plain.reason(one, order), () -> drive.reason(one, order));
        }
        compare("nextFor 0", () -> plain.nextFor(0), () -> drive.nextFor(0));
        compare("nextFor 1", () -> plain.nextFor(1), () -> drive.nextFor(1));
    }

    private void compareTexts() {
        StringBuilder text = new StringBuilder();
        for (int commands = below(8); commands > 0; commands--) {
            text.append(command());
        }
        if (below(3) == 0) {
            int place = below(text.length() + 1);
            text.insert(place, PIECES[below(PIECES.length)]);
        }
        if (below(4) == 0 && text.length() > 0) {
            int place = below(text.length());
            text.delete(place, Math.min(text.length(), place + 1 + below(3)));
        }
        if (below(8) == 0) {
            text.setLength(below(text.length() + 1));
        }
        typeSome(text.toString());
        compare("run", plain::runCommands, drive::runCommands);
        compare("digest", plain::digest, drive::digest);
        compare("run again", plain::runCommands, drive::runCommands);
        compare("digest", plain::digest, drive::digest);
    }

    private String command() {
        int word = below(WORDS.length);
        StringBuilder command = new StringBuilder(WORDS[word]);
        for (int number = 0; number < NUMBERS[word]; number++) {
            command.append(" ".repeat(1 + below(10) / 9));
            command.append("0".repeat(below(6) / 5));
            command.append(number == 3 ? below(100) : below(below(5) == 0 ? 25 : 3));
        }
        return command.append(" ".repeat(below(10) / 9)).append(';').append(" ".repeat(below(8) / 7)).toString();
    }

    private void typeSome(String text) {
        for (int index = 0; index < text.length(); index++) {
            char value = text.charAt(index);
            compare("type " + (int) value, () -> plain.type(value), () -> drive.type(value));
        }
    }
}
