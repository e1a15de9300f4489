/**
 * What holds of a drive after every change, whatever it is: the sentence with which the document begins, and what the
 * what-if questions say of the calls that follow. The remark at each test tells the words that it holds.
 */
final class WhatItIsTests {
    private static final int WALKS = 400;
    private static final int TOLD = 0;
    private static final int BEGUN = 1;
    private static final int DONE = 2;

    private WhatItIsTests() {
    }

    private static boolean open(int state) {
        return state == TOLD || state == BEGUN;
    }

    private static int stateBefore(int[] before, int order) {
        return order < before.length ? before[order] : TOLD;
    }

    // ---- "Two controllers of one drive .."

    /** "no order is done twice with another one between": what is done or cancelled stays so, and by whom and when. */
    static void promiseTermsNoOrderIsDoneTwice() {
        for (int seed = 0; seed < WALKS; seed++) {
            Walk walk = Walk.ofAllKinds(seed);
            int[] before = {};
            int[] doers = new int[8];
            int[] ticks = new int[8];
            for (int step = 0; step < 18; step++) {
                walk.step();
                int[] after = walk.states();
                for (int order = 0; order < after.length; order++) {
                    int was = stateBefore(before, order);
                    Check.holds("state " + after[order] + " after " + was, after[order] == was || was == TOLD
                            || was == BEGUN && after[order] == DONE);
                    int doer = walk.drive.orderOf(order, 6);
                    int tick = walk.drive.orderOf(order, 8);
                    Check.holds("doer and tick of order " + order, was != DONE || doer == doers[order]
                            && tick == ticks[order]);
                    doers[order] = doer;
                    ticks[order] = tick;
                }
                before = after;
            }
        }
    }

    /** "no order is done twice with another one between": each add is in the sum of the blocks once or not at all. */
    static void promiseTermsNoAddIsAddedTwice() {
        int torn = 0;
        for (int seed = 0; seed < WALKS; seed++) {
            Walk walk = Walk.ofAdds(seed);
            for (int step = 0; step < 30; step++) {
                walk.step();
                int[] states = walk.states();
                int done = 0;
                int begun = 0;
                for (int order = 0; order < states.length; order++) {
                    done += states[order] == DONE ? walk.operands[order] : 0;
                    begun += states[order] == BEGUN ? walk.operands[order] : 0;
                }
                int sum = walk.drive.whole(10);
                Check.holds("sum " + sum + " of " + done + " and " + begun, sum == done || sum == done + begun);
                torn += begun;
            }
        }
        Check.holds("some adds were torn", torn > 0);
    }

    /** "a marker on the drive by which a torn order is finished before another one begins" */
    static void promiseTermsTornOrderIsFinishedBeforeAnotherOneBegins() {
        for (int seed = 0; seed < WALKS; seed++) {
            Walk walk = Walk.ofAllKinds(seed);
            int[] before = {};
            for (int step = 0; step < 30; step++) {
                walk.step();
                int[] after = walk.states();
                int torn = walk.drive.whole(6);
                Check.same("begun orders", torn != -1 && after[torn] == BEGUN ? 1 : 0, walk.drive.whole(2));
                for (int order = 0; order < before.length; order++) {
                    if (before[order] == BEGUN && after[order] == BEGUN) {
                        noneBeganBeside(order, before, after);
                    }
                }
                before = after;
            }
        }
    }

    private static void noneBeganBeside(int torn, int[] before, int[] after) {
        for (int order = 0; order < after.length; order++) {
            int was = stateBefore(before, order);
            Check.holds("order " + order + " waits with order " + torn + " torn",
                    order == torn || after[order] == was || after[order] != BEGUN && after[order] != DONE);
        }
    }

    /** "orders that touch the same block and keep their order", and "fences" */
    static void promiseTermsOrdersThatMeetKeepTheirOrder() {
        for (int seed = 0; seed < WALKS; seed++) {
            Walk walk = Walk.ofAllKinds(seed);
            for (int step = 0; step < 30; step++) {
                walk.step();
                int[] states = walk.states();
                for (int later = 0; later < states.length; later++) {
                    for (int earlier = 0; earlier < later; earlier++) {
                        Check.holds("order " + later + " does not go before order " + earlier,
                                !walk.meet(earlier, later) || !open(states[earlier]) || states[later] != BEGUN
                                && states[later] != DONE);
                    }
                }
            }
        }
    }

    /** "done by whichever is awake first", "alarms that wake", "quarrels about orders that the other one has done" */
    static void promiseTermsDoneByWhicheverIsAwakeFirst() {
        for (int first = 0; first < 2; first++) {
            WokenDrive drive = Drives.asleep();
            drive.pass(1);
            drive.order(0, 0, 0, 0, 1);
            drive.setAlarm(first, 3);
            drive.setAlarm(1 - first, 5);
            Check.same("done before an alarm", 0, drive.pass(2));
            Check.same("done at the first alarm", 1, drive.pass(1));
            Check.orderFacts(drive, 0, 0, 0, 0, 0, 1, 2, first, 1, 3, 0);
            Check.same("quarrels before the second alarm", 0, drive.whole(8));
            Check.same("done at the second alarm", 0, drive.pass(2));
            Check.same("quarrels of the one that came too late", 1, drive.controller(1 - first, 7));
            Check.same("quarrels of the one that did it", 0, drive.controller(first, 7));
        }
    }

    // ---- a tick

    /** "When a tick passes, these things happen", and "Lets ticks pass.": many at once are as many one by one. */
    static void promise09ManyTicksAreManySingleOnes() {
        for (int seed = 0; seed < WALKS; seed++) {
            int ticks = 1 + seed % 50;
            WokenDrive atOnce = withFullStack(seed);
            WokenDrive oneByOne = withFullStack(seed);
            int done = 0;
            for (int tick = 0; tick < ticks; tick++) {
                done += oneByOne.pass(1);
            }
            Check.same("done in " + ticks, done, atOnce.pass(ticks));
            Check.same("digest after " + ticks, oneByOne.digest(), atOnce.digest());
        }
    }

    private static WokenDrive withFullStack(int seed) {
        WokenDrive drive = Walk.ofAllKinds(seed).steps(20).drive;
        for (int saved = 0; saved < 4; saved++) {
            drive.setDelay(0, 0);
        }
        return drive;
    }

    // ---- what if

    /** "Returns the order that a controller would finish or take, if it was awake and worked now." */
    static void promise19NextForIsWhatTheWorkThenTakes() {
        for (int seed = 0; seed < WALKS; seed++) {
            WokenDrive drive = Walk.ofAllKinds(seed).steps(20).drive;
            int one = seed % 2;
            int next = drive.nextFor(one);
            boolean torn = drive.whole(2) == 1;
            int result = workAwake(drive, one);
            Check.same("work with the next one " + next, next == -1 ? 0 : torn ? 1 : 2, result);
            if (next != -1) {
                Check.same("order of the marker", next, drive.whole(6));
                Check.same("its state", DONE, drive.orderOf(next, 5));
                Check.same("its doer", one, drive.orderOf(next, 6));
            }
        }
    }

    private static int workAwake(WokenDrive drive, int one) {
        if (drive.controller(one, 0) == 0) {
            drive.wake(one);
        }
        return drive.work(one, 3);
    }

    /** "Tells why a controller would not take an order if it was awake and worked now.": 0 for the next one alone. */
    static void promise20ReasonIsNoneForTheNextOneAlone() {
        for (int seed = 0; seed < WALKS; seed++) {
            Walk walk = Walk.ofAllKinds(seed).steps(20);
            for (int one = 0; one < 2; one++) {
                int next = walk.drive.nextFor(one);
                for (int order = 0; order < walk.orders; order++) {
                    Check.holds("reason of order " + order + " with the next one " + next,
                            (walk.drive.reason(one, order) == 0) == (order == next));
                }
            }
        }
    }

    /** "Tells after how many ticks no order is open, if nothing but ticks passed" */
    static void promise21DoneInIsWhatTheTicksThenShow() {
        for (int seed = 0; seed < WALKS; seed++) {
            Walk walk = Walk.ofAllKinds(seed).steps(20);
            int ticks = walk.drive.doneIn();
            int now = walk.drive.whole(5);
            Drives.passTo(walk.drive, now + (ticks == -1 ? 200 : Math.max(0, ticks - 1)));
            Check.holds("open before the last of " + ticks, walk.openOrders() > 0 || ticks == 0);
            if (ticks > 0) {
                walk.drive.pass(1);
                Check.same("open after the last of " + ticks, 0, walk.openOrders());
            }
        }
    }

    /** "Returns the value that a block would have if all open orders were done now": what the ticks bring. */
    static void promise22FinalValueIsWhatTheTicksThenBring() {
        int compared = 0;
        for (int seed = 0; seed < WALKS; seed++) {
            WokenDrive drive = Walk.ofAllKinds(seed).steps(20).drive;
            int ticks = drive.doneIn();
            int[] due = {drive.finalValue(0), drive.finalValue(1), drive.finalValue(2), drive.finalValue(3)};
            if (ticks != -1) {
                Drives.passTo(drive, drive.whole(5) + ticks);
                Check.blocks(drive, due[0], due[1], due[2], due[3]);
                compared++;
            }
        }
        Check.holds("some were done in the end", compared > WALKS / 4);
    }

    /** "what if, which changes nothing": nor do the calls that ask for values, nor digest. */
    static void promise11To27QuestionsChangeNothing() {
        for (int seed = 0; seed < 60; seed++) {
            WokenDrive drive = Walk.ofAllKinds(seed).steps(20).drive;
            Check.type(drive, "sleep 0;");
            long before = drive.digest();
            for (int order = 0; order < drive.whole(0); order++) {
                askOfOrder(drive, order);
            }
            for (int one = 0; one < 2; one++) {
                drive.controller(one, 4);
                drive.mail(one, 0);
                drive.nextFor(one);
            }
            drive.orderWith(0, seed % 32);
            drive.block(seed % 16);
            drive.finalValue(seed % 16);
            drive.doneIn();
            Check.same("digest", before, drive.digest());
        }
    }

    private static void askOfOrder(WokenDrive drive, int order) {
        drive.orderOf(order, 5);
        drive.waitsFor(order);
        drive.depth(order);
        drive.reason(0, order);
        drive.reason(1, order);
    }
}
