/**
 * Boundary cases of the drive and its orders, and of the promises 1 to 3. The remark at each test tells the sentence of
 * the document that it holds.
 */
final class OrderEdgeTests {
    private static final int[] ODD_NUMBERS = {Integer.MIN_VALUE, -1, 16, Integer.MAX_VALUE};

    private OrderEdgeTests() {
    }

    /** "An object is used for at most 512 calls after it has been made" */
    static void promiseTermsLastOfManyCallsAnswers() {
        WokenDrive drive = new WokenDrive();
        for (int call = 1; call <= 512; call++) {
            Check.same("call " + call, (call - 1) % 21, drive.setDelay(0, call % 21));
        }
    }

    /** "`NONE = -1`: Returned where there is no such value." */
    static void promiseTermsNoneIsMinusOne() {
        Check.same("NONE", -1, WokenDrive.NONE);
        Check.same("order that is not there", -1, new WokenDrive().orderWith(0, 0));
    }

    // ---- the drive and its orders

    /** "Ticks are numbered from 0." */
    static void promiseTermsTicksFromZero() {
        WokenDrive drive = new WokenDrive();
        Check.same("tick", 0, drive.whole(5));
        drive.order(0, 0, 0, 0, 1);
        drive.pass(1);
        Check.same("tick told", 0, drive.orderOf(0, 7));
        Check.same("tick done", 0, drive.orderOf(0, 8));
    }

    /** "The drive has 16 blocks, numbered from 0, each with a value (0 at first)." */
    static void promiseTermsSixteenBlocksFromZero() {
        WokenDrive drive = new WokenDrive();
        for (int block = 0; block < 16; block++) {
            Check.same("block at first", 0, drive.block(block));
            drive.order(0, block, 0, block, 100 + block);
        }
        drive.pass(8);
        for (int block = 0; block < 16; block++) {
            Check.same("block " + block, 100 + block, drive.block(block));
        }
        Check.badIndex(drive, "block 16", () -> drive.block(16));
    }

    /** "There are at most 40 orders, numbered from 0 as they are told." */
    static void promiseTermsFortyOrdersFromZero() {
        WokenDrive drive = new WokenDrive();
        for (int order = 0; order < 40; order++) {
            Check.same("order", order, drive.order(order / 32, order % 32, 3, 0, 0));
        }
        Check.badState(drive, "order 40", () -> drive.order(3, 31, 3, 0, 0));
        Check.same("orders", 40, drive.whole(0));
    }

    /** "There are at most 40 orders": those that are done or cancelled count, too. */
    static void promiseTermsOrdersThatAreOverTakeTheirPlaces() {
        WokenDrive drive = Drives.full();
        drive.cancel(0, 0);
        drive.cancel(1, 7);
        drive.pass(40);
        Check.wholeFacts(drive, 40, 0, 0, 38, 2);
        Check.badState(drive, "order 40", () -> drive.order(3, 31, 3, 0, 0));
    }

    /** "An order has a tag: a host (0 to 3) and a number (0 to 31)" */
    static void promiseTermsTagsAtTheCornersAreApart() {
        int[][] tags = {{0, 0}, {0, 31}, {3, 0}, {3, 31}, {0, 1}, {1, 0}, {2, 31}, {3, 30}};
        WokenDrive drive = new WokenDrive();
        for (int order = 0; order < tags.length; order++) {
            Check.same("order with the tag before", -1, drive.orderWith(tags[order][0], tags[order][1]));
            Check.same("order", order, drive.order(tags[order][0], tags[order][1], 0, 0, 0));
        }
        for (int order = 0; order < tags.length; order++) {
            Check.same("order with the tag", order, drive.orderWith(tags[order][0], tags[order][1]));
        }
    }

    /** "0 write (its block becomes the operand)" */
    static void promiseTermsWriteOfTheGreatestAndTheLeast() {
        WokenDrive drive = new WokenDrive();
        drive.order(0, 0, 0, 15, 999);
        drive.pass(1);
        Check.same("block", 999, drive.block(15));
        drive.order(0, 0, 0, 15, -999);
        drive.pass(1);
        Check.same("block", -999, drive.block(15));
        drive.order(0, 0, 0, 15, 0);
        drive.pass(1);
        Check.same("block", 0, drive.block(15));
    }

    /** "1 add (the operand is added to its block)": also beyond the range of an operand. */
    static void promiseTermsAddsGoBeyondTheOperandsRange() {
        for (int sign = -1; sign <= 1; sign += 2) {
            WokenDrive drive = new WokenDrive();
            for (int order = 0; order < 40; order++) {
                drive.order(order / 32, order % 32, 1, 15, sign * 999);
            }
            Check.same("final value", sign * 39960, drive.finalValue(15));
            drive.pass(20);
            Check.same("block", sign * 39960, drive.block(15));
            Check.same("sum", sign * 39960, drive.whole(10));
            Check.same("value of the marker", sign * 38961, drive.whole(7));
        }
    }

    /** "2 copy (its block becomes the value of the block whose number the operand is)" */
    static void promiseTermsCopyBetweenTheFirstAndTheLastBlock() {
        WokenDrive drive = new WokenDrive();
        drive.order(0, 0, 0, 0, 5);
        drive.order(0, 1, 2, 15, 0);
        drive.pass(1);
        Check.same("block 15", 5, drive.block(15));
        drive.order(0, 2, 0, 15, 6);
        drive.order(0, 3, 2, 0, 15);
        drive.pass(1);
        Check.same("block 0", 6, drive.block(0));
        drive.order(0, 4, 2, 15, 15);
        Check.same("copy of its own block", 1, drive.pass(1));
        Check.same("block 15", 6, drive.block(15));
    }

    /** "a kind", "a block, and an operand": they stay with the order, whatever becomes of it. */
    static void promiseTermsKindBlockAndOperandStay() {
        for (int kind = 0; kind < 4; kind++) {
            int block = kind == 3 ? 0 : 9;
            int operand = kind == 3 ? 0 : 12;
            WokenDrive drive = new WokenDrive();
            drive.order(2, 17, kind, block, operand);
            Check.orderFacts(drive, 0, 2, 17, kind, block, operand, 0);
            drive.work(0, 1);
            Check.orderFacts(drive, 0, 2, 17, kind, block, operand, 1);
            drive.work(1, 1);
            Check.orderFacts(drive, 0, 2, 17, kind, block, operand, 2);
            drive.order(2, 17, kind, block, operand);
            drive.cancel(2, 17);
            Check.orderFacts(drive, 1, 2, 17, kind, block, operand, 3);
        }
    }

    /** "3 fence (nothing changes)" */
    static void promiseTermsFenceChangesNoBlock() {
        WokenDrive drive = new WokenDrive();
        for (int block = 0; block < 16; block++) {
            drive.order(0, block, 0, block, 100 + block);
        }
        drive.pass(8);
        drive.order(1, 0, 3, 0, 0);
        Check.same("work", 2, drive.work(0, 3));
        for (int block = 0; block < 16; block++) {
            Check.same("block " + block, 100 + block, drive.block(block));
        }
    }

    /** "It is in a state: 0 told, 1 begun, 2 done, 3 cancelled; it is open in the states 0 and 1." */
    static void promiseTermsOpenInTheStatesToldAndBegunAlone() {
        WokenDrive drive = new WokenDrive();
        drive.order(0, 0, 0, 0, 1);
        drive.order(0, 1, 0, 0, 1);
        drive.order(0, 2, 0, 0, 1);
        Check.same("state told", 0, drive.orderOf(0, 5));
        Check.same("waits for a told one", 0, drive.waitsFor(1));
        Check.same("depth of a told one", 0, drive.depth(0));
        drive.work(0, 1);
        Check.same("state begun", 1, drive.orderOf(0, 5));
        Check.same("waits for a begun one", 0, drive.waitsFor(1));
        Check.same("depth of a begun one", 0, drive.depth(0));
        drive.work(1, 1);
        Check.same("state done", 2, drive.orderOf(0, 5));
        Check.same("waits for a done one", -1, drive.waitsFor(1));
        Check.same("depth of a done one", -1, drive.depth(0));
        drive.cancel(0, 1);
        Check.same("state cancelled", 3, drive.orderOf(1, 5));
        Check.same("waits for a cancelled one", -1, drive.waitsFor(2));
        Check.same("depth of a cancelled one", -1, drive.depth(1));
    }

    /** "A tag can be told anew only if its latest order is done or cancelled." */
    static void promiseTermsTagToldAnewAfterEachState() {
        WokenDrive drive = new WokenDrive();
        drive.order(2, 9, 0, 0, 1);
        Check.badState(drive, "tag of a told order", () -> drive.order(2, 9, 0, 5, 1));
        drive.work(0, 1);
        Check.badState(drive, "tag of a begun order", () -> drive.order(2, 9, 0, 5, 1));
        drive.work(1, 1);
        Check.same("tag of a done order", 1, drive.order(2, 9, 0, 5, 1));
        drive.cancel(2, 9);
        Check.same("tag of a cancelled order", 2, drive.order(2, 9, 0, 5, 1));
    }

    /** "A tag can be told anew only if its latest order is done or cancelled.": earlier ones do not matter. */
    static void promiseTermsTagToldAnewByItsLatestOrderAlone() {
        WokenDrive drive = new WokenDrive();
        drive.order(2, 9, 0, 0, 1);
        drive.cancel(2, 9);
        drive.order(2, 9, 0, 0, 1);
        Check.badState(drive, "tag with a cancelled and a told order", () -> drive.order(2, 9, 0, 0, 1));
        drive.pass(1);
        Check.same("tag with a cancelled and a done order", 2, drive.order(2, 9, 0, 0, 1));
    }

    /** "An order touches its block, and a copy also the block whose number the operand is" */
    static void promiseTermsOnlyACopyTouchesTheBlockOfItsOperand() {
        for (int kind = 0; kind < 3; kind++) {
            WokenDrive drive = new WokenDrive();
            drive.order(0, 0, kind, 0, 15);
            drive.order(0, 1, 0, 15, 1);
            drive.order(0, 2, 0, 0, 1);
            drive.order(0, 3, 0, 14, 1);
            Check.same("order of block 15 behind kind " + kind, kind == 2 ? 0 : -1, drive.waitsFor(1));
            Check.same("order of block 0 behind kind " + kind, 0, drive.waitsFor(2));
            Check.same("order of block 14 behind kind " + kind, -1, drive.waitsFor(3));
        }
    }

    /**
     * "both touch a common block": by their blocks, by their operands, or by a block of one and an operand of the
     * other.
     */
    static void promiseTermsCopiesMeetInEitherBlock() {
        long[][] meetings = {{1, 2, 1, 3}, {1, 2, 3, 2}, {1, 2, 3, 1}, {1, 2, 2, 3}, {1, 1, 2, 1}, {15, 0, 0, 14}};
        for (long[] blocks : meetings) {
            WokenDrive drive = new WokenDrive();
            drive.order(0, 0, 2, (int) blocks[0], (int) blocks[1]);
            drive.order(0, 1, 2, (int) blocks[2], (int) blocks[3]);
            Check.same("copy behind a copy", 0, drive.waitsFor(1));
        }
        WokenDrive drive = new WokenDrive();
        drive.order(0, 0, 2, 1, 2);
        drive.order(0, 1, 2, 3, 4);
        Check.same("copy of other blocks", -1, drive.waitsFor(1));
    }

    /** "one of both is a fence": the earlier one, the later one, or both; "a fence touches none". */
    static void promiseTermsFencesWaitForAllAndAllForThem() {
        WokenDrive drive = new WokenDrive();
        drive.order(0, 0, 0, 15, 1);
        drive.order(0, 1, 3, 0, 0);
        drive.order(0, 2, 3, 0, 0);
        drive.order(0, 3, 0, 14, 1);
        drive.order(0, 4, 0, 0, 1);
        Check.same("fence behind a write", 0, drive.waitsFor(1));
        Check.same("fence behind a fence", 0, drive.waitsFor(2));
        drive.cancel(0, 0);
        Check.same("fence behind no open order", -1, drive.waitsFor(1));
        Check.same("fence behind a fence alone", 1, drive.waitsFor(2));
        Check.same("write behind fences", 1, drive.waitsFor(3));
        drive.cancel(0, 1);
        drive.cancel(0, 2);
        Check.same("write behind cancelled fences", -1, drive.waitsFor(3));
        Check.same("write of block 0 behind cancelled fences", -1, drive.waitsFor(4));
    }

    /** "one of both is a fence": of whatever block the other one is, from the first to the last. */
    static void promiseTermsFencesMeetOrdersOfEveryBlock() {
        for (int kind = 0; kind < 3; kind++) {
            for (int block = 0; block < 16; block++) {
                WokenDrive drive = new WokenDrive();
                drive.order(0, 0, kind, block, block);
                drive.order(0, 1, 3, 0, 0);
                drive.order(0, 2, kind, block, block);
                Check.same("fence behind an order of block " + block, 0, drive.waitsFor(1));
                drive.pass(1);
                Check.same("state of the fence behind an order of block " + block, 2, drive.orderOf(1, 5));
                drive.order(0, 3, 3, 0, 0);
                drive.cancel(0, 2);
                drive.order(0, 4, kind, block, block);
                Check.same("order of block " + block + " behind a fence", 3, drive.waitsFor(4));
                Check.same("order of block " + block + " is not taken before a fence", 3, drive.nextFor(0));
            }
        }
    }

    /** "An order waits for an earlier one that is open": never for itself or for a later one. */
    static void promiseTermsNoOrderWaitsForALaterOne() {
        WokenDrive drive = new WokenDrive();
        drive.order(0, 0, 2, 1, 1);
        drive.order(0, 1, 0, 1, 1);
        drive.order(0, 2, 3, 0, 0);
        Check.same("first order", -1, drive.waitsFor(0));
        drive.cancel(0, 0);
        drive.cancel(0, 1);
        Check.same("fence alone", -1, drive.waitsFor(2));
    }

    // ---- promise 1

    /** "Creates a drive of zeros, without orders" */
    static void promise01DriveOfZerosWithoutOrders() {
        WokenDrive drive = new WokenDrive();
        for (int block = 0; block < 16; block++) {
            Check.same("block", 0, drive.block(block));
            Check.same("final value", 0, drive.finalValue(block));
        }
        Check.wholeFacts(drive, 0, 0, 0, 0, 0);
        Check.same("sum", 0, drive.whole(10));
        for (int tag = 0; tag < 128; tag++) {
            Check.same("order with a tag", -1, drive.orderWith(tag / 32, tag % 32));
        }
        Check.badIndex(drive, "order 0", () -> drive.orderOf(0, 0));
    }

    /** "with both controllers awake, at tick 0" */
    static void promise01BothAwakeAtTickZero() {
        WokenDrive drive = new WokenDrive();
        Check.same("awake", 2, drive.whole(9));
        Check.same("awake 0", 1, drive.controller(0, 0));
        Check.same("awake 1", 1, drive.controller(1, 0));
        Check.same("tick", 0, drive.whole(5));
    }

    /** "with an empty command text and an empty undo stack" */
    static void promise01EmptyTextAndStack() {
        WokenDrive drive = new WokenDrive();
        Check.same("length", 0, drive.whole(11));
        Check.badState(drive, "undo", drive::undo);
        Check.same("length that it had", 0, drive.clearCommands());
        Check.same("commands", 0, drive.runCommands());
    }

    // ---- promise 2

    /** "`host`: 0 to 3"; "Throws `IllegalArgumentException` if an argument is out of range" */
    static void promise02HostRange() {
        Check.range("host", 0, 3, Check.ARGUMENT, WokenDrive::new,
                (drive, host) -> drive.orderOf(drive.order(host, 0, 0, 0, 0), 0));
    }

    /** "`number`: 0 to 31"; "Throws `IllegalArgumentException` if an argument is out of range" */
    static void promise02NumberRange() {
        Check.range("number", 0, 31, Check.ARGUMENT, WokenDrive::new,
                (drive, number) -> drive.orderOf(drive.order(0, number, 0, 0, 0), 1));
    }

    /** "`kind`: 0 to 3"; "Throws `IllegalArgumentException` if an argument is out of range" */
    static void promise02KindRange() {
        Check.range("kind", 0, 3, Check.ARGUMENT, WokenDrive::new,
                (drive, kind) -> drive.orderOf(drive.order(0, 0, kind, 0, 0), 2));
    }

    /** "`block`: 0 to 15"; "Throws `IllegalArgumentException` if an argument is out of range" */
    static void promise02BlockRange() {
        for (int kind = 0; kind < 3; kind++) {
            int of = kind;
            Check.range("block of kind " + kind, 0, 15, Check.ARGUMENT, WokenDrive::new,
                    (drive, block) -> drive.orderOf(drive.order(0, 0, of, block, 0), 3));
        }
    }

    /** "`block`: 0 to 15; 0 for a fence" */
    static void promise02BlockOfAFenceIsZero() {
        Check.range("block of a fence", 0, 0, Check.ARGUMENT, WokenDrive::new,
                (drive, block) -> drive.orderOf(drive.order(0, 0, 3, block, 0), 3));
        WokenDrive drive = new WokenDrive();
        Check.badArgument(drive, "fence of block 15", () -> drive.order(0, 0, 3, 15, 0));
    }

    /** "`operand`: -999 to 999"; "Throws `IllegalArgumentException` if an argument is out of range" */
    static void promise02OperandRange() {
        for (int kind = 0; kind < 2; kind++) {
            int of = kind;
            Check.range("operand of kind " + kind, -999, 999, Check.ARGUMENT, WokenDrive::new,
                    (drive, operand) -> drive.orderOf(drive.order(0, 0, of, 0, operand), 4));
        }
    }

    /** "for a copy the number of a block" */
    static void promise02OperandOfACopyIsABlock() {
        Check.range("operand of a copy", 0, 15, Check.ARGUMENT, WokenDrive::new,
                (drive, operand) -> drive.orderOf(drive.order(0, 0, 2, 0, operand), 4));
        WokenDrive drive = new WokenDrive();
        Check.badArgument(drive, "copy of block 999", () -> drive.order(0, 0, 2, 0, 999));
    }

    /** "0 for a fence": the operand. */
    static void promise02OperandOfAFenceIsZero() {
        Check.range("operand of a fence", 0, 0, Check.ARGUMENT, WokenDrive::new,
                (drive, operand) -> drive.orderOf(drive.order(0, 0, 3, 0, operand), 4));
        WokenDrive drive = new WokenDrive();
        Check.badArgument(drive, "fence with the operand 999", () -> drive.order(0, 0, 3, 0, 999));
    }

    /** "Returns the number of the order." */
    static void promise02NumbersGoOnThroughTagsToldAnew() {
        WokenDrive drive = new WokenDrive();
        for (int order = 0; order < 40; order++) {
            Check.same("order", order, drive.order(3, 31, 0, 15, order));
            drive.pass(1);
        }
        Check.same("latest", 39, drive.orderWith(3, 31));
        Check.badState(drive, "order 40", () -> drive.order(3, 31, 0, 15, 40));
    }

    /** "Throws `IllegalStateException` if there are 40 orders, or the tag cannot be told anew" */
    static void promise02RefusedByTheStateOfThingsAlone() {
        WokenDrive drive = new WokenDrive();
        for (int order = 0; order < 39; order++) {
            drive.order(order / 32, order % 32, 0, 0, 0);
        }
        Check.badState(drive, "tag in use", () -> drive.order(0, 0, 0, 0, 0));
        Check.same("order 39", 39, drive.order(2, 0, 0, 0, 0));
        Check.badState(drive, "order 40", () -> drive.order(2, 1, 0, 0, 0));
        Check.badState(drive, "order 40 with a tag in use", () -> drive.order(2, 0, 0, 0, 0));
        drive.cancel(2, 0);
        Check.badState(drive, "order 40 with a tag that could be told anew", () -> drive.order(2, 0, 0, 0, 0));
    }

    /** "If several exceptions of a method apply, the one that is listed first is thrown.": of order. */
    static void promise02WrongArgumentGoesBeforeTheState() {
        WokenDrive full = Drives.full();
        for (int odd : ODD_NUMBERS) {
            Check.badArgument(full, "host of order 40", () -> full.order(odd, 0, 0, 0, 0));
            Check.badArgument(full, "block of a tag in use", () -> full.order(0, 0, 0, odd, 0));
            Check.badArgument(full, "kind of a tag in use", () -> full.order(0, 0, odd, 0, 0));
            Check.badArgument(full, "operand of a tag in use", () -> full.order(0, 0, 2, 0, odd));
        }
        Check.badArgument(full, "number of order 40", () -> full.order(0, 32, 0, 0, 0));
        Check.badArgument(full, "operand of a tag in use", () -> full.order(0, 0, 0, 0, 1000));
        Check.badArgument(full, "fence of a tag in use", () -> full.order(0, 0, 3, 0, 1));
        WokenDrive drive = new WokenDrive();
        drive.order(0, 0, 0, 0, 0);
        Check.badArgument(drive, "operand of a tag in use", () -> drive.order(0, 0, 0, 0, -1000));
    }

    // ---- promise 3

    /** "`host`: 0 to 3"; "Throws `IllegalArgumentException` if an argument is out of range" */
    static void promise03HostRange() {
        Check.range("host", 0, 3, Check.ARGUMENT, Drives::ofEveryHost, (drive, host) -> drive.cancel(host, 31));
    }

    /** "`number`: 0 to 31"; "Throws `IllegalArgumentException` if an argument is out of range" */
    static void promise03NumberRange() {
        Check.range("number", 0, 31, Check.ARGUMENT, Drives::full, (drive, number) -> drive.cancel(0, number));
    }

    /** "Returns the number of the order.": the first one, the last of 40, and the latest of a tag. */
    static void promise03NumbersOfTheFirstAndTheLastOrder() {
        WokenDrive drive = Drives.full();
        Check.same("first order", 0, drive.cancel(0, 0));
        Check.same("last order", 39, drive.cancel(1, 7));
        Check.wholeFacts(drive, 40, 38, 0, 0, 2);
        WokenDrive other = new WokenDrive();
        other.order(0, 0, 0, 0, 0);
        other.pass(1);
        other.order(0, 0, 0, 0, 0);
        Check.same("latest order", 1, other.cancel(0, 0));
        Check.same("state of the earlier one", 2, other.orderOf(0, 5));
    }

    /** "if there is no order with this tag" */
    static void promise03NoOrderWithTheTag() {
        WokenDrive drive = new WokenDrive();
        Check.badState(drive, "empty drive", () -> drive.cancel(0, 0));
        drive.order(0, 0, 0, 0, 0);
        Check.badState(drive, "another number", () -> drive.cancel(0, 1));
        Check.badState(drive, "another host", () -> drive.cancel(1, 0));
        drive.undo();
        Check.badState(drive, "order that was undone", () -> drive.cancel(0, 0));
    }

    /** "or the latest one is not in the state 0" */
    static void promise03LatestOrderInEachOtherState() {
        WokenDrive drive = Drives.torn(1);
        Check.badState(drive, "begun order", () -> drive.cancel(0, 0));
        drive.work(1, 1);
        Check.badState(drive, "done order", () -> drive.cancel(0, 0));
        drive.order(0, 0, 0, 0, 0);
        drive.cancel(0, 0);
        Check.badState(drive, "cancelled order", () -> drive.cancel(0, 0));
    }

    /** "If several exceptions of a method apply, the one that is listed first is thrown.": of cancel. */
    static void promise03WrongArgumentGoesBeforeTheState() {
        WokenDrive drive = new WokenDrive();
        Check.badArgument(drive, "host of no order", () -> drive.cancel(4, 0));
        Check.badArgument(drive, "number of no order", () -> drive.cancel(0, 32));
        WokenDrive full = Drives.full();
        full.pass(20);
        Check.badArgument(full, "host of none", () -> full.cancel(-1, 0));
        Check.badArgument(full, "number of none", () -> full.cancel(0, -1));
    }
}
