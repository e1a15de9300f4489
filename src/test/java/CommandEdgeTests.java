import java.util.function.Consumer;

/**
 * Boundary cases of texts of commands, and of the promises 23 to 25. The remark at each test tells the sentence of the
 * document that it holds.
 */
final class CommandEdgeTests {
    private static final int NO_FAULT = -1;
    private static final String[] COMMANDS = {
        "put 1 2 3 4;", "add 1 2 3 4;", "copy 1 2 3 4;", "fence 1 2;", "cancel 1 2;", "wake 1;", "sleep 1;",
        "work 1 2;", "delay 1 2;", "ticks 1;",
    };

    private CommandEdgeTests() {
    }

    private static void fault(String text, int due) {
        WokenDrive drive = new WokenDrive();
        Check.type(drive, text);
        long before = drive.digest();
        int answer = drive.runCommands();
        if (due == NO_FAULT) {
            Check.holds("no fault of '" + text + "', but " + answer, answer >= 0);
        } else {
            Check.same("run of '" + text + "'", -10 - due, answer);
            Check.same("digest after the fault of '" + text + "'", before, drive.digest());
        }
    }

    private static void carriesOut(WokenDrive drive, String text, int due) {
        Check.same("run of '" + text + "'", due, Check.run(drive, text));
    }

    /** Each byte stands once between the two parts; what its fault is then, the table tells. */
    private static void everyByteBetween(String before, String behind, FaultOfByte table) {
        for (int value = 0; value < 128; value++) {
            fault(before + (char) value + behind, table.due((char) value, before.length()));
        }
    }

    private interface FaultOfByte {
        int due(char value, int place);
    }

    private static boolean letter(char value) {
        return value >= 'a' && value <= 'z';
    }

    private static boolean digit(char value) {
        return value >= '0' && value <= '9';
    }

    // ---- texts of commands

    /** "The command text has at most 150 bytes.": such a text is read to its last byte. */
    static void promiseTermsTextOfTheGreatestLength() {
        StringBuilder text = new StringBuilder();
        for (int pair = 0; pair < 10; pair++) {
            text.append("sleep 0;wake 0;");
        }
        Check.same("length", 150, text.length());
        carriesOut(new WokenDrive(), text.toString(), 20);
        text.setCharAt(149, '!');
        fault(text.toString(), 149);
        text.setCharAt(149, ' ');
        fault(text.toString(), 150);
        text.setLength(149);
        fault(text.toString(), 149);
    }

    /** "(perhaps none: a text that is empty, or has spaces alone, has no fault)": from none to 150 spaces. */
    static void promiseTermsEmptyTextAndSpacesAlone() {
        for (int length = 0; length <= 150; length++) {
            carriesOut(new WokenDrive(), " ".repeat(length), 0);
        }
    }

    /** "a word of letters a to z" and "Spaces may also stand in front of a command": each byte in front of one. */
    static void promiseTermsEveryByteInFrontOfACommand() {
        everyByteBetween("", "wake 1;", (value, place) -> value == ' ' ? NO_FAULT : 0);
        everyByteBetween("", "", (value, place) -> value == ' ' ? NO_FAULT : 0);
        everyByteBetween("sleep 1;", "wake 1;", (value, place) -> value == ' ' ? NO_FAULT : 8);
        everyByteBetween("   ", "", (value, place) -> value == ' ' ? NO_FAULT : 3);
    }

    /** "a word of letters a to z", "with at least one space (byte 32) in front": each byte behind a word. */
    static void promiseTermsEveryByteBehindAWord() {
        everyByteBetween("wake", "1;", (value, place) -> value == ' ' ? NO_FAULT : letter(value) ? 0 : 4);
        everyByteBetween("wake", " 1;", (value, place) -> value == ' ' ? NO_FAULT : letter(value) ? 0 : 4);
        everyByteBetween("sleep 1;wake", "", (value, place) -> value == ' ' ? 13 : letter(value) ? 8 : 12);
    }

    /** "a word of letters a to z": each byte within one; only the letter that was there makes it a word. */
    static void promiseTermsEveryByteWithinAWord() {
        everyByteBetween("wa", "e 1;", (value, place) -> value == 'k' ? NO_FAULT : 0);
        everyByteBetween("", "ake 1;", (value, place) -> value == 'w' ? NO_FAULT : value == ' ' ? 1 : 0);
        everyByteBetween("wak", " 1;", (value, place) -> value == 'e' ? NO_FAULT : 0);
    }

    /** "followed by its numbers, each of one to three digits": each byte where a number has to begin. */
    static void promiseTermsEveryByteWhereANumberBegins() {
        everyByteBetween("wake ", "1;", (value, place) -> value == ' ' || digit(value) ? NO_FAULT : place);
        everyByteBetween("wake ", ";", (value, place) -> digit(value) ? NO_FAULT : value == ' ' ? place + 1 : place);
        everyByteBetween("work 1  ", ";", (value, place) -> digit(value) ? NO_FAULT : value == ' ' ? place + 1 : place);
    }

    /** "each of one to three digits": each byte behind the first digit and behind the second. */
    static void promiseTermsEveryByteBehindADigit() {
        for (String number : new String[] {"1", "01"}) {
            everyByteBetween("wake " + number, ";", (value, place) -> value == ' ' || digit(value) ? NO_FAULT
                    : value == ';' ? place + 1 : place);
            everyByteBetween("work " + number, " 2;",
                    (value, place) -> value == ' ' || digit(value) ? NO_FAULT : place);
        }
    }

    /** "a fourth digit cannot stand": each byte behind three digits. */
    static void promiseTermsEveryByteBehindThreeDigits() {
        everyByteBetween("wake 001", ";", (value, place) -> value == ' ' ? NO_FAULT : value == ';' ? place + 1 : place);
        everyByteBetween("work 001", " 2;", (value, place) -> value == ' ' ? NO_FAULT : place);
    }

    /**
     * "each of one to three digits (zeros in front are allowed; a fourth digit cannot stand)": of each number of a
     * command.
     */
    static void promiseTermsOneToFourDigitsOfEachNumber() {
        String[] numbers = {"1", "01", "001", "0001"};
        for (int which = 0; which < 4; which++) {
            for (int digits = 1; digits <= 4; digits++) {
                StringBuilder text = new StringBuilder("add");
                for (int number = 0; number < 4; number++) {
                    text.append(' ').append(number == which ? numbers[digits - 1] : "1");
                }
                text.append(';');
                fault(text.toString(), digits < 4 ? NO_FAULT : 4 + 2 * which + 3);
                if (digits < 4) {
                    WokenDrive drive = new WokenDrive();
                    carriesOut(drive, text.toString(), 1);
                    Check.orderFacts(drive, 0, 1, 1, 1, 1, 1);
                }
            }
        }
    }

    /** "each of one to three digits": the greatest number, and each digit at each place. */
    static void promiseTermsNumbersOfThreeDigitsAreReadWhole() {
        for (int operand : new int[] {0, 9, 10, 99, 100, 987, 654, 321, 998, 999}) {
            WokenDrive drive = new WokenDrive();
            carriesOut(drive, "put 0 0 0 " + operand + ";", 1);
            Check.same("operand", operand, drive.orderOf(0, 4));
        }
    }

    /** "with at least one space (byte 32) in front": none, one, and many. */
    static void promiseTermsSpacesInFrontOfNumbers() {
        fault("work1 2;", 4);
        fault("work 1 2;", NO_FAULT);
        fault("work  1  2;", NO_FAULT);
        fault("work" + " ".repeat(72) + "1" + " ".repeat(71) + "2;", NO_FAULT);
        fault("work\t1 2;", 4);
        fault("work 1\t2;", 6);
        fault("work 1;", 6);
        fault("work 12;", 7);
    }

    /** "and a semicolon": each byte where it has to stand, with a space in front of it. */
    static void promiseTermsEveryByteWhereTheSemicolonIsDue() {
        everyByteBetween("wake 1 ", "",
                (value, place) -> value == ';' ? NO_FAULT : value == ' ' ? place + 1 : place);
        everyByteBetween("put 1 2 3 4 ", ";",
                (value, place) -> value == ' ' ? NO_FAULT : value == ';' ? place + 1 : place);
    }

    /** "Spaces may also stand in front of a command, in front of a semicolon, and at the end." */
    static void promiseTermsSpacesAtTheEnd() {
        carriesOut(new WokenDrive(), "sleep 1;", 1);
        carriesOut(new WokenDrive(), "sleep 1; ", 1);
        carriesOut(new WokenDrive(), " ".repeat(70) + "sleep 1" + " ".repeat(40) + ";" + " ".repeat(32), 1);
        fault("sleep 1;;", 8);
        fault("sleep 1; ;", 9);
        fault(";", 0);
    }

    /** "or the length of the text if it ends too soon": each command cut at each place. */
    static void promiseTermsEveryCommandCutShort() {
        for (String command : COMMANDS) {
            int word = command.indexOf(' ');
            for (int length = 1; length < command.length(); length++) {
                fault(command.substring(0, length), length < word ? 0 : length);
                fault("ticks 1; " + command.substring(0, length), length < word ? 9 : 9 + length);
            }
            fault(command, NO_FAULT);
        }
    }

    /**
     * "The fault of a command text is the index of the first byte that cannot stand at its place": not of a later one.
     */
    static void promiseTermsFirstOfSeveralFaults() {
        fault("wake x; put y; ?", 5);
        fault("sleep 1;wake 1 1;nap 1;", 15);
        fault("nap 1;wake 1 1;", 0);
    }

    /** "followed by its numbers": one too few or one too many, of each command. */
    static void promiseTermsNumbersOneTooFewAndOneTooMany() {
        for (String command : COMMANDS) {
            int end = command.length() - 1;
            fault(command.substring(0, end - 2) + ";", end - 2);
            fault(command.substring(0, end) + " 1;", end + 1);
        }
    }

    /**
     * "A word that is not one of these is at fault with its first byte": words with a letter less, more, or another.
     */
    static void promiseTermsWordsThatAreNone() {
        for (String command : COMMANDS) {
            int end = command.indexOf(' ');
            String numbers = command.substring(end);
            fault(command.substring(1), 0);
            fault("  " + command.substring(0, end - 1) + numbers, 2);
            fault("  " + command.substring(0, end) + command.charAt(end - 1) + numbers, 2);
            fault(command.charAt(0) + command, 0);
            fault("ticks 1;" + command.substring(0, end - 1) + "q" + numbers, 8);
            fault(command.substring(0, end).toUpperCase() + numbers, 0);
        }
        for (String text : new String[] {"alarm 1 2;", "lose 1;", "undo;", "pass 1;", "order 1 2 0 3 4;", "end 1 2;"}) {
            fault(text, 0);
        }
    }

    /** "found when the word is complete: when a byte that is no letter, or the end of the text, follows it" */
    static void promiseTermsWordsThatAreNoneAreFoundWhenTheyAreComplete() {
        fault("nap", 0);
        fault("nap ", 0);
        fault("nap;", 0);
        fault("nap1", 0);
        fault("na\0", 0);
        fault("sleep 1; n", 9);
        fault("x".repeat(150), 0);
        fault("x".repeat(149) + " ", 0);
        fault(" ".repeat(149) + "x", 149);
        fault(" ".repeat(147) + "put", 150);
        fault(" ".repeat(148) + "pu", 148);
    }

    /** "(That a number is out of its range is no fault.)": such a command is not carried out. */
    static void promiseTermsNumbersOutOfRangeAreNoFault() {
        String[] texts = {
            "put 4 0 0 0;", "add 0 32 0 0;", "copy 0 0 16 0;", "copy 0 0 0 16;", "fence 4 0;", "cancel 999 999;",
            "wake 2;", "sleep 2;", "work 2 1;", "work 0 0;", "work 0 4;", "delay 2 0;", "delay 0 21;", "ticks 0;",
            "ticks 51;", "ticks 999;",
        };
        for (String text : texts) {
            WokenDrive drive = new WokenDrive();
            carriesOut(drive, text, 0);
            Check.same("states left after '" + text + "'", 0, drive.undo());
        }
    }

    /** "The words are: put h n b v (order(h, n, 0, b, v)) .. ticks n (pass(n))": the ends of their ranges. */
    static void promiseTermsNumbersAtTheEndsOfTheirRanges() {
        WokenDrive drive = new WokenDrive();
        carriesOut(drive, "put 3 31 15 999;add 0 0 0 0;copy 3 30 15 15;fence 3 29;fence 0 1;", 5);
        Check.orderFacts(drive, 0, 3, 31, 0, 15, 999, 0);
        Check.orderFacts(drive, 1, 0, 0, 1, 0, 0, 0);
        Check.orderFacts(drive, 2, 3, 30, 2, 15, 15, 0);
        Check.orderFacts(drive, 3, 3, 29, 3, 0, 0, 0);
        Check.orderFacts(drive, 4, 0, 1, 3, 0, 0, 0);
        carriesOut(drive, "cancel 3 30;cancel 0 1;delay 0 20;delay 1 0;ticks 1;ticks 50;", 6);
        Check.wholeFacts(drive, 5, 0, 0, 3, 2, 51);
        Check.same("delay", 20, drive.controller(0, 1));
        carriesOut(drive, "sleep 0;sleep 1;wake 1;wake 0;put 0 0 1 7;work 1 1;", 6);
        carriesOut(drive, "work 0 3;wake 1;put 0 1 2 8;work 1 2;", 4);
        Check.same("state", 2, drive.orderOf(5, 5));
        Check.same("state", 1, drive.orderOf(6, 5));
        Check.same("block", 8, drive.block(2));
    }

    /** One drive runs the text, the other one gets the calls; they have to be alike, also once both are undone. */
    private static void doesAs(String text, Consumer<WokenDrive> calls) {
        WokenDrive drive = beforeACommand();
        WokenDrive other = beforeACommand();
        carriesOut(drive, text, 1);
        drive.clearCommands();
        calls.accept(other);
        Check.same("digest after '" + text + "'", other.digest(), drive.digest());
        other.undo();
        drive.undo();
        Check.same("digest after the undo of '" + text + "'", other.digest(), drive.digest());
    }

    /** The orders 0 0 and 0 1 are told, controller 1 is asleep. */
    private static WokenDrive beforeACommand() {
        WokenDrive drive = new WokenDrive();
        drive.order(0, 0, 0, 4, 6);
        drive.order(0, 1, 1, 5, 7);
        drive.sleep(1);
        return drive;
    }

    /**
     * "put h n b v (order(h, n, 0, b, v)), add h n b v (order(h, n, 1, b, v)), copy h n b c (order(h, n, 2, b, c)),
     * fence h n (order(h, n, 3, 0, 0)), cancel h n (cancel(h, n)), wake c (wake(c)), sleep c (sleep(c)), work c s
     * (work(c, s)), delay c d (setDelay(c, d)), ticks n (pass(n))"
     */
    static void promiseTermsEachWordMakesItsCall() {
        doesAs("put 1 2 3 4;", drive -> drive.order(1, 2, 0, 3, 4));
        doesAs("add 1 2 3 4;", drive -> drive.order(1, 2, 1, 3, 4));
        doesAs("copy 1 2 3 4;", drive -> drive.order(1, 2, 2, 3, 4));
        doesAs("fence 1 2;", drive -> drive.order(1, 2, 3, 0, 0));
        doesAs("cancel 0 1;", drive -> drive.cancel(0, 1));
        doesAs("wake 1;", drive -> drive.wake(1));
        doesAs("sleep 0;", drive -> drive.sleep(0));
        doesAs("work 0 1;", drive -> drive.work(0, 1));
        doesAs("work 0 2;", drive -> drive.work(0, 2));
        doesAs("work 0 3;", drive -> drive.work(0, 3));
        doesAs("delay 1 7;", drive -> drive.setDelay(1, 7));
        doesAs("ticks 2;", drive -> drive.pass(2));
    }

    /** "It is a sequence of commands", "otherwise the commands are carried out in their order" */
    static void promiseTermsCommandsInTheirOrder() {
        carriesOut(new WokenDrive(), "sleep 0;wake 0;", 2);
        carriesOut(new WokenDrive(), "wake 0;sleep 0;", 0);
        WokenDrive drive = new WokenDrive();
        carriesOut(drive, "put 0 0 1 5;copy 0 1 2 1;add 0 2 1 1;ticks 2;", 4);
        Check.blocks(drive, 0, 6, 5);
        WokenDrive other = new WokenDrive();
        carriesOut(other, "add 0 2 1 1;copy 0 1 2 1;put 0 0 1 5;ticks 2;", 4);
        Check.blocks(other, 0, 5, 1);
        WokenDrive third = new WokenDrive();
        carriesOut(third, "ticks 3;put 0 0 1 5;delay 0 4;put 0 1 2 5;", 4);
        Check.same("tick told", 3, third.orderOf(0, 7));
        Check.same("arrived", 1, third.controller(0, 4));
    }

    /** "if it has a fault, nothing is done": not even what stands in front of the fault. */
    static void promiseTermsFaultBehindGoodCommands() {
        fault("sleep 0;put 0 0 0 1;ticks 5;x", 28);
        fault("sleep 0;put 0 0 0 1;ticks 5", 27);
    }

    /**
     * "until one of them would throw an exception, which is not thrown; those before it stay done, and they alone
     * count"
     */
    static void promiseTermsRunStopsAtACommandThatWouldThrow() {
        String[] texts = {
            "wake 0;", "sleep 2;", "put 0 0 0 0;", "fence 3 32;", "cancel 1 1;", "work 1 3;", "delay 0 21;",
            "ticks 51;",
        };
        for (String text : texts) {
            WokenDrive drive = new WokenDrive();
            carriesOut(drive, "put 0 0 0 5;sleep 1;" + text + "sleep 0;", 2);
            Check.same("orders after '" + text + "'", 1, drive.whole(0));
            Check.same("awake 1 after '" + text + "'", 0, drive.controller(1, 0));
            Check.same("awake 0 after '" + text + "'", 1, drive.controller(0, 0));
        }
    }

    /** "until one of them would throw an exception": the 41st order, and a tick greater than 9999. */
    static void promiseTermsRunStopsAtTheFullDriveAndAtTheLastTick() {
        WokenDrive drive = new WokenDrive();
        for (int order = 0; order < 39; order++) {
            drive.order(order / 32, order % 32, 0, 0, 0);
        }
        Drives.passTo(drive, 9949);
        carriesOut(drive, "put 3 0 0 0;fence 3 1;", 1);
        Check.same("orders", 40, drive.whole(0));
        carriesOut(drive, "ticks 49;ticks 1;ticks 1;", 2);
        Check.same("tick", 9999, drive.whole(5));
        carriesOut(drive, "ticks 1;", 0);
    }

    /** "A run saves one state, the one from before it; its commands save none." */
    static void promiseTermsRunSavesOneState() {
        WokenDrive drive = new WokenDrive();
        drive.setDelay(0, 9);
        carriesOut(drive, "delay 0 1;delay 0 2;delay 0 3;delay 0 4;delay 0 5;", 5);
        Check.same("states left", 1, drive.undo());
        Check.same("delay", 9, drive.controller(0, 1));
        Check.same("states left", 0, drive.undo());
        Check.same("delay", 0, drive.controller(0, 1));
    }

    // ---- promise 23

    /** "`value`: 0 to 127"; "Throws `IllegalArgumentException` if value is out of range" */
    static void promise23ValueRange() {
        Check.outside("value", 0, 127, Check.ARGUMENT, WokenDrive::new, WokenDrive::type);
        WokenDrive drive = new WokenDrive();
        Check.same("least", 1, drive.type(0));
        Check.same("greatest", 2, drive.type(127));
        Check.same("run", -10, drive.runCommands());
    }

    /** "Returns the length of the text.": from 1 to 150. */
    static void promise23LengthFromOneToTheGreatest() {
        WokenDrive drive = new WokenDrive();
        for (int length = 1; length <= 150; length++) {
            Check.same("length", length, drive.type(length % 128));
        }
    }

    /** "Throws `IllegalStateException` if the text has 150 bytes": and not before, and no more once it is emptied. */
    static void promise23FullText() {
        WokenDrive drive = Drives.withFullText();
        for (int value : new int[] {0, ' ', 'a', 127}) {
            Check.badState(drive, "byte 151", () -> drive.type(value));
        }
        drive.clearCommands();
        Check.same("length", 1, drive.type('a'));
    }

    /** "If several exceptions of a method apply, the one that is listed first is thrown.": of type. */
    static void promise23WrongValueGoesBeforeAFullText() {
        Check.outside("value", 0, 127, Check.ARGUMENT, Drives::withFullText, WokenDrive::type);
    }

    // ---- promise 24

    /** "Returns the length that it had.": from 0 to 150. */
    static void promise24LengthThatItHad() {
        WokenDrive drive = new WokenDrive();
        Check.same("empty", 0, drive.clearCommands());
        drive.type('w');
        Check.same("one byte", 1, drive.clearCommands());
        Check.same("empty again", 0, drive.clearCommands());
        Check.same("full", 150, Drives.withFullText().clearCommands());
    }

    /** "Empties the command text.": nothing of a longer text shows behind a shorter one. */
    static void promise24NothingOfTheOldTextStays() {
        WokenDrive drive = new WokenDrive();
        Check.type(drive, "sleep 0;sleep 1;");
        drive.clearCommands();
        Check.same("run of the empty text", 0, drive.runCommands());
        Check.same("awake", 2, drive.whole(9));
        Check.type(drive, "sleep 0;");
        Check.same("run of the shorter text", 1, drive.runCommands());
        drive.clearCommands();
        Check.type(drive, "sleep ");
        Check.same("run of a text cut short", -16, drive.runCommands());
    }

    // ---- promise 25

    /** "-10 minus the fault if it has one": from the fault 0 to 150. */
    static void promise25FaultsAtEachPlace() {
        for (int place = 0; place < 150; place++) {
            fault(" ".repeat(place) + "?", place);
        }
        fault(" ".repeat(144) + "wake 1", 150);
    }

    /** "Returns the number of commands that were carried out": none, and as many as the text has room for. */
    static void promise25FromNoCommandToAFullText() {
        carriesOut(new WokenDrive(), "", 0);
        carriesOut(new WokenDrive(), "wake 0;", 0);
        StringBuilder text = new StringBuilder();
        for (int order = 0; order < 15; order++) {
            text.append("fence 1 ").append(order % 10).append(";");
        }
        WokenDrive drive = new WokenDrive();
        carriesOut(drive, text.toString(), 10);
        Check.same("orders", 10, drive.whole(0));
        carriesOut(new WokenDrive(), "ticks 1;".repeat(18) + "      ", 18);
    }

    /** "Runs the command text, which stays as it is." */
    static void promise25TextStays() {
        WokenDrive drive = Drives.asleep();
        Check.type(drive, "wake 0;sleep 0;");
        for (int run = 0; run < 3; run++) {
            Check.same("commands", 2, drive.runCommands());
            Check.same("length", 15, drive.whole(11));
        }
        drive.clearCommands();
        Check.type(drive, "wake 0 0;");
        for (int run = 0; run < 3; run++) {
            Check.same("fault", -17, drive.runCommands());
            Check.same("length", 9, drive.whole(11));
        }
    }

    /** "Undoable, if it has no fault.": also a run that carries out nothing. */
    static void promise25UndoableIfItHasNoFault() {
        for (String text : new String[] {"", "   ", "wake 0;", "sleep 0;wake 1;"}) {
            WokenDrive drive = new WokenDrive();
            Check.run(drive, text);
            Check.same("states left after '" + text + "'", 0, drive.undo());
        }
        for (String text : new String[] {"?", "sleep 0", "sleep 0;?"}) {
            WokenDrive drive = new WokenDrive();
            Check.run(drive, text);
            Check.badState(drive, "undo after '" + text + "'", drive::undo);
        }
    }
}
