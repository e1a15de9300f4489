/** Promises 23 to 25: type, clearCommands and runCommands. */
final class CommandTests {
    private CommandTests() {
    }

    private static void fault(String text, int due) {
        WokenDrive drive = new WokenDrive();
        Check.type(drive, text);
        long before = drive.digest();
        Check.same("run of '" + text + "'", -10 - due, drive.runCommands());
        Check.same("digest after the fault of '" + text + "'", before, drive.digest());
    }

    private static void carriesOut(String text, int due) {
        WokenDrive drive = new WokenDrive();
        Check.same("run of '" + text + "'", due, Check.run(drive, text));
    }

    /** The text has to do what the calls do that were made on the other drive. */
    private static void doesTheSame(WokenDrive drive, String text, WokenDrive other) {
        Check.run(drive, text);
        drive.clearCommands();
        drive.order(3, 31, 3, 0, 0);
        other.order(3, 31, 3, 0, 0);
        for (int saved = 0; saved < 3; saved++) {
            other.setAlarm(0, 0);
            drive.setAlarm(0, 0);
        }
        Check.same("digest after '" + text + "'", other.digest(), drive.digest());
    }

    static void promise23TypeAppends() {
        WokenDrive drive = new WokenDrive();
        Check.same("first byte", 1, drive.type(0));
        Check.same("second byte", 2, drive.type(127));
        Check.badArgument(drive, "type(-1)", () -> drive.type(-1));
        Check.badArgument(drive, "type(128)", () -> drive.type(128));
        Check.same("length", 2, drive.whole(11));
        for (int length = 3; length <= 150; length++) {
            Check.same("byte", length, drive.type(' '));
        }
        Check.badState(drive, "byte 151", () -> drive.type(' '));
        Check.badArgument(drive, "wrong byte 151", () -> drive.type(128));
    }

    static void promise23TypeIsNotUndone() {
        WokenDrive drive = new WokenDrive();
        drive.order(0, 0, 0, 0, 0);
        drive.type('a');
        Check.same("states left", 0, drive.undo());
        Check.same("length", 1, drive.whole(11));
    }

    static void promise24ClearEmptiesTheText() {
        WokenDrive drive = new WokenDrive();
        Check.same("length before", 0, drive.clearCommands());
        Check.type(drive, "put");
        Check.same("length before", 3, drive.clearCommands());
        Check.same("length", 0, drive.whole(11));
        Check.same("run of the empty text", 0, drive.runCommands());
        Check.same("length after", 1, drive.type('x'));
        drive.undo();
        Check.same("length after undo", 1, drive.clearCommands());
    }

    static void promise25EveryWordDoesItsCall() {
        WokenDrive other = new WokenDrive();
        other.order(1, 2, 0, 3, 4);
        doesTheSame(new WokenDrive(), "put 1 2 3 4;", other);
        other = new WokenDrive();
        other.order(1, 2, 1, 3, 4);
        doesTheSame(new WokenDrive(), "add 1 2 3 4;", other);
        other = new WokenDrive();
        other.order(1, 2, 2, 3, 4);
        doesTheSame(new WokenDrive(), "copy 1 2 3 4;", other);
        other = new WokenDrive();
        other.order(1, 2, 3, 0, 0);
        doesTheSame(new WokenDrive(), "fence 1 2;", other);
        other = new WokenDrive();
        other.order(0, 0, 0, 1, 1);
        other.order(0, 1, 0, 2, 1);
        other.sleep(0);
        other.cancel(0, 1);
        doesTheSame(new WokenDrive(), "put 0 0 1 1;put 0 1 2 1;sleep 0;cancel 0 1;", other);
        other = new WokenDrive();
        other.order(0, 1, 0, 2, 1);
        other.sleep(1);
        doesTheSame(new WokenDrive(), "put 0 1 2 1;sleep 0;wake 0;sleep 1;", other);
        other = new WokenDrive();
        other.order(0, 0, 1, 1, 9);
        other.work(1, 2);
        doesTheSame(new WokenDrive(), "add 0 0 1 9;work 1 2;", other);
        other = new WokenDrive();
        other.setDelay(1, 20);
        other.pass(50);
        doesTheSame(new WokenDrive(), "delay 1 20;ticks 50;", other);
    }

    static void promise25SpacesMayStand() {
        carriesOut("", 0);
        carriesOut("   ", 0);
        carriesOut("  sleep   0  ;  wake 0 ;  ", 2);
        carriesOut("sleep 0;wake 0;sleep 000;wake 00;", 4);
        carriesOut("ticks 050;delay 001 020;", 2);
    }

    static void promise25RunStopsAtTheFirstThatWouldThrow() {
        WokenDrive drive = new WokenDrive();
        Check.same("commands", 2, Check.run(drive, "put 0 0 1 5;ticks 1;wake 0;put 0 1 2 5;"));
        Check.same("orders", 1, drive.whole(0));
        Check.same("tick", 1, drive.whole(5));
        carriesOut("wake 2;", 0);
        carriesOut("sleep 2;", 0);
        carriesOut("work 0 4;", 0);
        carriesOut("work 2 1;", 0);
        carriesOut("delay 0 21;", 0);
        carriesOut("ticks 0;", 0);
        carriesOut("ticks 51;", 0);
        carriesOut("cancel 0 0;", 0);
        carriesOut("put 4 0 0 0;", 0);
        carriesOut("put 0 0 16 0;", 0);
        carriesOut("copy 0 0 0 16;", 0);
        carriesOut("fence 0 32;", 0);
        carriesOut("add 0 0 0 999;fence 0 0;", 1);
        carriesOut("sleep 0;sleep 0;", 1);
        carriesOut("sleep 0;work 0 3;", 1);
    }

    static void promise25TextStaysAndRunsAgain() {
        WokenDrive drive = new WokenDrive();
        Check.same("commands", 2, Check.run(drive, "put 0 0 1 5;ticks 1;"));
        Check.same("length", 20, drive.whole(11));
        Check.same("commands again", 2, drive.runCommands());
        Check.same("orders", 2, drive.whole(0));
    }

    static void promise25RunSavesOneState() {
        WokenDrive drive = new WokenDrive();
        drive.setDelay(0, 3);
        Check.same("commands", 3, Check.run(drive, "sleep 0;sleep 1;ticks 5;"));
        Check.same("states left", 1, drive.undo());
        Check.wholeFacts(drive, 0, 0, 0, 0, 0, 0, -1, 0, 0, 2, 0, 24);
        Check.same("delay", 3, drive.controller(0, 1));
        Check.same("commands of a run that carries out none", 0, Check.run(drive, "wake 0;"));
        Check.same("commands of an empty run", 0, Check.run(drive, "  "));
        Check.same("states left", 2, drive.undo());
    }

    static void promise25FaultsOfWords() {
        fault("p", 0);
        fault("pu", 0);
        fault("putt 0 0 0 0;", 0);
        fault("  wak 0;", 2);
        fault("sleep 0;wokke 0;", 8);
        fault("sleep 0;zz", 8);
        fault("block 0;", 0);
        fault("alarm 0 0;", 0);
        fault("wakea 0;", 0);
        fault("wakez 0;", 0);
        fault("bake 0;", 0);
        fault("wade 0;", 0);
        fault("walk 0;", 0);
        fault("fork 0 1;", 0);
        fault("1", 0);
        fault(";", 0);
        fault("sleep 0;;", 8);
        fault("sleep 0; ;", 9);
        fault("Wake 0;", 0);
        fault("wAke 0;", 0);
        fault("wakE 0;", 0);
        fault("wakeE 0;", 4);
        fault("wake{0;", 4);
        fault("wake`0;", 4);
        fault("\twake 0;", 0);
        fault("sleep 0;\0", 8);
    }

    static void promise25FaultsOfNumbers() {
        fault("wake", 4);
        fault("wake ", 5);
        fault("wake 0", 6);
        fault("wake 0  ", 8);
        fault("wake0;", 4);
        fault("wake;", 4);
        fault("wake ;", 5);
        fault("wake 0 0;", 7);
        fault("wake -1;", 5);
        fault("wake 0x;", 6);
        fault("wake 0000;", 8);
        fault("wake 1234;", 8);
        fault("work 0;", 6);
        fault("work 0 ;", 7);
        fault("work 0", 6);
        fault("work 0 1 2;", 9);
        fault("put 0 0 0;", 9);
        fault("put 0 0 0 0 0;", 12);
        fault("fence 0;", 7);
        fault("fence 0 0 0;", 10);
        fault("cancel 0 0 0;", 11);
        fault("ticks 1 1;", 8);
        fault("ticks 1:", 7);
        fault("ticks /1", 6);
        fault("sleep 0;wake", 12);
        fault("sleep 0; wake 0", 15);
    }

    static void promise25FaultIsLookedForFromTheFirstByte() {
        WokenDrive drive = new WokenDrive();
        Check.same("commands", 2, Check.run(drive, "sleep 0;sleep 1;"));
        Check.same("fault of another text", -10, Check.run(drive, "x"));
        Check.same("fault of a text that ends sooner", -17, Check.run(drive, "sleep 0"));
        Check.same("commands", 1, Check.run(drive, "wake 0;"));
    }

    static void promise25FaultKeepsAllFromBeingDone() {
        WokenDrive drive = new WokenDrive();
        Check.same("fault", -18, Check.run(drive, "sleep 0;x"));
        Check.same("awake", 1, drive.controller(0, 0));
        Check.badState(drive, "undo", drive::undo);
    }

    static void promise25TextOfFullLength() {
        StringBuilder text = new StringBuilder();
        for (int commands = 0; commands < 10; commands++) {
            text.append("sleep 0;wake 0;");
        }
        carriesOut(text.toString(), 20);
        text.setCharAt(149, ' ');
        fault(text.toString(), 150);
        fault("x".repeat(150), 0);
        carriesOut(" ".repeat(150), 0);
    }
}
