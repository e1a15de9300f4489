/**
 * Two controllers of one drive. Orders come to both of them after a delay and are done by whichever is awake first; a
 * marker on the drive tells a torn order, which is finished before another one begins.
 */
public final class WokenDrive {
    /** Returned where there is no such value. */
    public static final int NONE = -1;

    private static final int BLOCKS = 16;
    private static final int HOSTS = 4;
    private static final int NUMBERS = 32;
    private static final int MOST_ORDERS = 40;
    private static final int GREATEST_OPERAND = 999;
    private static final int CONTROLLERS = 2;
    private static final int LONGEST_DELAY = 20;
    private static final int LONGEST_ALARM = 20;
    private static final int ALL_STEPS = 3;
    private static final int MOST_TICKS_OF_A_CALL = 50;
    private static final int LAST_TICK = 9999;
    private static final int FARTHEST_FORESEEN = 200;
    private static final int LONGEST_TEXT = 150;
    private static final int MOST_NUMBERS_OF_A_COMMAND = 4;
    private static final int MOST_DIGITS = 3;
    private static final int FAULTS_FROM = -10;
    private static final int MOST_SAVED = 4;
    private static final long DIGEST_START = 43490L;

    // kinds of orders
    private static final int KIND_WRITE = 0;
    private static final int KIND_ADD = 1;
    private static final int KIND_COPY = 2;
    private static final int KIND_FENCE = 3;

    // states of orders
    private static final int TOLD = 0;
    private static final int BEGUN = 1;
    private static final int DONE = 2;
    private static final int CANCELLED = 3;

    // The facts of an order bear the numbers that orderOf() gives them, so that it answers from the row as it is;
    // the arrivals behind them are for the controllers alone.
    private static final int HOST = 0;
    private static final int NUMBER = 1;
    private static final int KIND = 2;
    private static final int BLOCK = 3;
    private static final int OPERAND = 4;
    private static final int STATE = 5;
    private static final int DOER = 6;
    private static final int TOLD_AT = 7;
    private static final int DONE_AT = 8;
    private static final int FINISHED = 9;
    private static final int ARRIVAL = 10;
    private static final int FACTS_SHOWN = 10;
    private static final int FACTS = 12;

    private static final int CONTROLLER_FACTS = 9;
    private static final int CONTROLLER_ARRIVED = 4;
    private static final int WHOLE_FACTS = 12;
    private static final int WHOLE_TEXT_LENGTH = 11;

    // what a call is refused for
    private static final int FINE = 0;
    private static final int BAD_INDEX = 1;
    private static final int BAD_ARGUMENT = 2;
    private static final int BAD_STATE = 3;

    // what came of a controller's work
    private static final int DID_NOTHING = 0;
    private static final int FINISHED_TORN = 1;
    private static final int DID_ORDER = 2;
    private static final int FELL_ASLEEP = 3;

    // why a controller would not take an order
    private static final int WOULD_TAKE = 0;
    private static final int NOT_OPEN = 1;
    private static final int TORN_FIRST = 2;
    private static final int NOT_IN_MAILBOX = 3;
    private static final int NOT_ARRIVED = 4;
    private static final int WAITS = 5;
    private static final int OTHER_TAKEN = 6;

    private static final Word[] WORDS = Word.values();

    // All rows are made here once and used again, as all calls of a run share one room.
    private final Drive drive = new Drive();
    private final Drive imagined = new Drive();
    private final History history = new History();
    private final CommandText text = new CommandText();
    private final int[] finals = new int[BLOCKS];
    private final int[] depths = new int[MOST_ORDERS];

    public WokenDrive() {
    }

    // ---- orders

    public int order(int host, int number, int kind, int block, int operand)
            throws IllegalArgumentException, IllegalStateException {
        refuse(drive.faultOfTelling(host, number, kind, block, operand));
        history.save(drive);
        return drive.tell(host, number, kind, block, operand);
    }

    public int cancel(int host, int number) throws IllegalArgumentException, IllegalStateException {
        refuse(drive.faultOfCancelling(host, number));
        history.save(drive);
        return drive.callOff(host, number);
    }

    // ---- controllers and ticks

    public int wake(int controller) throws IndexOutOfBoundsException, IllegalStateException {
        refuse(drive.faultOfWaking(controller));
        history.save(drive);
        return drive.rouse(controller);
    }

    public int sleep(int controller) throws IndexOutOfBoundsException, IllegalStateException {
        refuse(drive.faultOfNeedingAwake(controller));
        history.save(drive);
        return drive.putToSleep(controller);
    }

    public int setDelay(int controller, int delay) throws IndexOutOfBoundsException, IllegalArgumentException {
        refuse(drive.faultOfDelay(controller, delay));
        history.save(drive);
        return drive.changeDelay(controller, delay);
    }

    public int setAlarm(int controller, int alarm) throws IndexOutOfBoundsException, IllegalArgumentException {
        refuse(drive.faultOfAlarm(controller, alarm));
        history.save(drive);
        return drive.changeAlarm(controller, alarm);
    }

    public int work(int controller, int steps)
            throws IndexOutOfBoundsException, IllegalArgumentException, IllegalStateException {
        refuse(drive.faultOfWorking(controller, steps));
        history.save(drive);
        return drive.letWork(controller, steps);
    }

    public int pass(int ticks) throws IllegalArgumentException, IllegalStateException {
        refuse(drive.faultOfPassing(ticks));
        history.save(drive);
        return drive.letPass(ticks);
    }

    public int lose(int controller) throws IndexOutOfBoundsException {
        refuse(faultOfController(controller));
        history.save(drive);
        return drive.takeMailboxAway(controller);
    }

    // ---- values

    public int block(int block) throws IndexOutOfBoundsException {
        refuse(faultOfBlock(block));
        return at(drive.values, block);
    }

    public int orderOf(int order, int what) throws IndexOutOfBoundsException, IllegalArgumentException {
        refuse(drive.faultOfOrder(order));
        refuse(faultOfRange(what, 0, FACTS_SHOWN - 1));
        return drive.fact(order, what);
    }

    public int orderWith(int host, int number) throws IllegalArgumentException {
        refuse(faultOfTag(host, number));
        return drive.latestWith(host, number);
    }

    public int controller(int controller, int what) throws IndexOutOfBoundsException, IllegalArgumentException {
        refuse(faultOfController(controller));
        refuse(faultOfRange(what, 0, CONTROLLER_FACTS - 1));
        return drive.controllerFact(controller, what);
    }

    public int mail(int controller, int index) throws IndexOutOfBoundsException, IllegalArgumentException {
        refuse(faultOfController(controller));
        refuse(index < 0 ? BAD_ARGUMENT : FINE);
        return drive.mailAt(controller, index);
    }

    public int whole(int what) throws IllegalArgumentException {
        refuse(faultOfRange(what, 0, WHOLE_FACTS - 1));
        return wholeFact(what);
    }

    // ---- what if, which changes nothing

    public int waitsFor(int order) throws IndexOutOfBoundsException {
        refuse(drive.faultOfOrder(order));
        return drive.firstAwaited(order);
    }

    public int depth(int order) throws IndexOutOfBoundsException {
        refuse(drive.faultOfOrder(order));
        drive.reckonDepths(depths);
        return at(depths, order);
    }

    public int nextFor(int controller) throws IndexOutOfBoundsException {
        refuse(faultOfController(controller));
        return drive.nextOf(controller);
    }

    public int reason(int controller, int order) throws IndexOutOfBoundsException {
        refuse(faultOfController(controller));
        refuse(drive.faultOfOrder(order));
        return drive.whyNot(controller, order);
    }

    public int doneIn() {
        imagined.become(drive);
        for (int ticks = 0; ticks <= FARTHEST_FORESEEN; ticks++) {
            if (!imagined.hasOpenOrder()) {
                return ticks;
            }
            imagined.letPass(1);
        }
        return NONE;
    }

    public int finalValue(int block) throws IndexOutOfBoundsException {
        refuse(faultOfBlock(block));
        drive.reckonFinals(finals);
        return at(finals, block);
    }

    // ---- command text, undo and checksum

    public int type(int value) throws IllegalArgumentException, IllegalStateException {
        refuse(faultOfRange(value, 0, 127));
        refuse(text.isFull() ? BAD_STATE : FINE);
        return text.append(value);
    }

    public int clearCommands() {
        return text.empty();
    }

    public int runCommands() {
        int fault = text.findFault();
        if (fault != NONE) {
            return FAULTS_FROM - fault;
        }
        history.save(drive);
        text.rewind();
        int carriedOut = 0;
        while (carriedOut < LONGEST_TEXT && text.readNext() && faultOfCommand() == FINE) {
            obeyCommand();
            carriedOut++;
        }
        return carriedOut;
    }

    public int undo() throws IllegalStateException {
        refuse(history.size == 0 ? BAD_STATE : FINE);
        return history.restoreTo(drive);
    }

    public long digest() {
        long hash = mix(DIGEST_START, history.size);
        for (int what = 0; what < WHOLE_FACTS; what++) {
            hash = mix(hash, wholeFact(what));
        }
        hash = mixBlocks(hash);
        hash = mixOrders(hash);
        for (int controller = 0; controller < CONTROLLERS; controller++) {
            hash = mixController(hash, controller);
        }
        return hash;
    }

    private long mixBlocks(long start) {
        long hash = start;
        drive.reckonFinals(finals);
        for (int block = 0; block < BLOCKS; block++) {
            hash = mix(hash, at(drive.values, block));
            hash = mix(hash, at(finals, block));
        }
        return hash;
    }

    private long mixOrders(long start) {
        long hash = start;
        drive.reckonDepths(depths);
        for (int order = 0; order < drive.orders; order++) {
            for (int what = 0; what < FACTS_SHOWN; what++) {
                hash = mix(hash, drive.fact(order, what));
            }
            hash = mix(hash, drive.firstAwaited(order));
            hash = mix(hash, at(depths, order));
        }
        return hash;
    }

    private long mixController(long start, int controller) {
        long hash = start;
        for (int what = 0; what < CONTROLLER_FACTS; what++) {
            hash = mix(hash, drive.controllerFact(controller, what));
        }
        for (int order = 0; order < drive.orders; order++) {
            if (drive.controllerAt(controller).holds(order)) {
                hash = mix(hash, order);
            }
        }
        return mix(hash, drive.nextOf(controller));
    }

    private static long mix(long hash, long value) {
        return 31L * hash + value;
    }

    private int wholeFact(int what) {
        return what == WHOLE_TEXT_LENGTH ? text.length : drive.wholeFact(what);
    }

    private int faultOfCommand() {
        Word word = text.word;
        if (word == null) {
            return BAD_STATE;
        }
        int first = text.numberAt(0);
        int second = text.numberAt(1);
        switch (word) {
            case PUT:
            case ADD:
            case COPY:
                return drive.faultOfTelling(first, second, word.kind, text.numberAt(2), text.numberAt(3));
            case FENCE:
                return drive.faultOfTelling(first, second, word.kind, 0, 0);
            case CANCEL:
                return drive.faultOfCancelling(first, second);
            case WAKE:
                return drive.faultOfWaking(first);
            case SLEEP:
                return drive.faultOfNeedingAwake(first);
            case WORK:
                return drive.faultOfWorking(first, second);
            case DELAY:
                return drive.faultOfDelay(first, second);
            case TICKS:
                return drive.faultOfPassing(first);
            default:
                return BAD_STATE;
        }
    }

    private void obeyCommand() {
        Word word = text.word;
        if (word == null) {
            return;
        }
        int first = text.numberAt(0);
        int second = text.numberAt(1);
        switch (word) {
            case PUT:
            case ADD:
            case COPY:
                drive.tell(first, second, word.kind, text.numberAt(2), text.numberAt(3));
                break;
            case FENCE:
                drive.tell(first, second, word.kind, 0, 0);
                break;
            case CANCEL:
                drive.callOff(first, second);
                break;
            case WAKE:
                drive.rouse(first);
                break;
            case SLEEP:
                drive.putToSleep(first);
                break;
            case WORK:
                drive.letWork(first, second);
                break;
            case DELAY:
                drive.changeDelay(first, second);
                break;
            case TICKS:
                drive.letPass(first);
                break;
            default:
                break;
        }
    }

    private static void refuse(int fault) {
        if (fault == BAD_INDEX) {
            throw new IndexOutOfBoundsException("there is no such block, order or controller");
        }
        if (fault == BAD_ARGUMENT) {
            throw new IllegalArgumentException("an argument is out of range");
        }
        if (fault == BAD_STATE) {
            throw new IllegalStateException("the state does not allow this call");
        }
    }

    private static boolean isWithin(int value, int least, int greatest) {
        return value >= least && value <= greatest;
    }

    private static int faultOfRange(int value, int least, int greatest) {
        return isWithin(value, least, greatest) ? FINE : BAD_ARGUMENT;
    }

    private static int faultOfController(int controller) {
        return isWithin(controller, 0, CONTROLLERS - 1) ? FINE : BAD_INDEX;
    }

    private static int faultOfBlock(int block) {
        return isWithin(block, 0, BLOCKS - 1) ? FINE : BAD_INDEX;
    }

    private static int faultOfTag(int host, int number) {
        return isWithin(host, 0, HOSTS - 1) && isWithin(number, 0, NUMBERS - 1) ? FINE : BAD_ARGUMENT;
    }

    // Rows are read and written through these two and fact() and setFact(), so that every index is looked at before
    // it is used.
    private static int at(int[] row, int index) {
        return index >= 0 && index < row.length ? row[index] : 0;
    }

    private static void put(int[] row, int index, int value) {
        if (index >= 0 && index < row.length) {
            row[index] = value;
        }
    }

    /** The whole state but the command text, with what happens to it. Its calls expect arguments that are no fault. */
    private static final class Drive {
        final int[] values = new int[BLOCKS];
        final int[] facts = new int[MOST_ORDERS * FACTS];
        final Controller zero = new Controller();
        final Controller one = new Controller();
        int orders = 0;
        int tick = 0;
        int markerOrder = NONE;
        int markerValue = 0;

        void become(Drive other) {
            System.arraycopy(other.values, 0, values, 0, BLOCKS);
            System.arraycopy(other.facts, 0, facts, 0, MOST_ORDERS * FACTS);
            zero.become(other.zero);
            one.become(other.one);
            orders = other.orders;
            tick = other.tick;
            markerOrder = other.markerOrder;
            markerValue = other.markerValue;
        }

        Controller controllerAt(int controller) {
            return controller == 0 ? zero : one;
        }

        int fact(int order, int what) {
            int index = order * FACTS + what;
            return index >= 0 && index < facts.length ? facts[index] : 0;
        }

        void setFact(int order, int what, int value) {
            int index = order * FACTS + what;
            if (index >= 0 && index < facts.length) {
                facts[index] = value;
            }
        }

        // ---- what a call is refused for

        int faultOfOrder(int order) {
            return order >= 0 && order < orders ? FINE : BAD_INDEX;
        }

        int faultOfTelling(int host, int number, int kind, int block, int operand) {
            if (faultOfTag(host, number) != FINE || !isOrderOfItsKind(kind, block, operand)) {
                return BAD_ARGUMENT;
            }
            int latest = latestWith(host, number);
            return orders >= MOST_ORDERS || latest != NONE && isOpen(latest) ? BAD_STATE : FINE;
        }

        private static boolean isOrderOfItsKind(int kind, int block, int operand) {
            switch (kind) {
                case KIND_WRITE:
                case KIND_ADD:
                    return isWithin(block, 0, BLOCKS - 1) && isWithin(operand, -GREATEST_OPERAND, GREATEST_OPERAND);
                case KIND_COPY:
                    return isWithin(block, 0, BLOCKS - 1) && isWithin(operand, 0, BLOCKS - 1);
                case KIND_FENCE:
                    return block == 0 && operand == 0;
                default:
                    return false;
            }
        }

        int faultOfCancelling(int host, int number) {
            if (faultOfTag(host, number) != FINE) {
                return BAD_ARGUMENT;
            }
            int latest = latestWith(host, number);
            return latest == NONE || fact(latest, STATE) != TOLD ? BAD_STATE : FINE;
        }

        int faultOfWaking(int controller) {
            if (faultOfController(controller) != FINE) {
                return BAD_INDEX;
            }
            return controllerAt(controller).awake ? BAD_STATE : FINE;
        }

        int faultOfNeedingAwake(int controller) {
            if (faultOfController(controller) != FINE) {
                return BAD_INDEX;
            }
            return controllerAt(controller).awake ? FINE : BAD_STATE;
        }

        int faultOfDelay(int controller, int delay) {
            if (faultOfController(controller) != FINE) {
                return BAD_INDEX;
            }
            return faultOfRange(delay, 0, LONGEST_DELAY);
        }

        int faultOfAlarm(int controller, int alarm) {
            if (faultOfController(controller) != FINE) {
                return BAD_INDEX;
            }
            return faultOfRange(alarm, 0, LONGEST_ALARM);
        }

        int faultOfWorking(int controller, int steps) {
            if (faultOfController(controller) != FINE) {
                return BAD_INDEX;
            }
            return isWithin(steps, 1, ALL_STEPS) ? faultOfNeedingAwake(controller) : BAD_ARGUMENT;
        }

        int faultOfPassing(int ticks) {
            if (!isWithin(ticks, 1, MOST_TICKS_OF_A_CALL)) {
                return BAD_ARGUMENT;
            }
            return tick + ticks > LAST_TICK ? BAD_STATE : FINE;
        }

        // ---- changes from outside

        int tell(int host, int number, int kind, int block, int operand) {
            int order = orders;
            setFact(order, HOST, host);
            setFact(order, NUMBER, number);
            setFact(order, KIND, kind);
            setFact(order, BLOCK, block);
            setFact(order, OPERAND, operand);
            setFact(order, STATE, TOLD);
            setFact(order, DOER, NONE);
            setFact(order, TOLD_AT, tick);
            setFact(order, DONE_AT, NONE);
            setFact(order, FINISHED, 0);
            for (int controller = 0; controller < CONTROLLERS; controller++) {
                setFact(order, ARRIVAL + controller, tick + controllerAt(controller).delay);
                controllerAt(controller).receive(order);
            }
            orders++;
            return order;
        }

        int callOff(int host, int number) {
            int order = latestWith(host, number);
            setFact(order, STATE, CANCELLED);
            return order;
        }

        int rouse(int controller) {
            controllerAt(controller).awake = true;
            return arrivedMail(controller);
        }

        int putToSleep(int controller) {
            controllerAt(controller).awake = false;
            return arrivedMail(controller);
        }

        int changeDelay(int controller, int delay) {
            int previous = controllerAt(controller).delay;
            controllerAt(controller).delay = delay;
            return previous;
        }

        int changeAlarm(int controller, int alarm) {
            int previous = controllerAt(controller).alarm;
            controllerAt(controller).alarm = alarm;
            return previous;
        }

        int takeMailboxAway(int controller) {
            int lost = controllerAt(controller).mailSize();
            controllerAt(controller).mailbox = 0L;
            return lost;
        }

        // ---- ticks and work

        /** Returns the number of orders that are done in the ticks. */
        int letPass(int ticks) {
            int done = 0;
            for (int passed = 0; passed < ticks; passed++) {
                zero.heedAlarm(tick);
                one.heedAlarm(tick);
                for (int turn = 0; turn < CONTROLLERS; turn++) {
                    int controller = (tick + turn) % CONTROLLERS;
                    if (controllerAt(controller).awake && letWork(controller, ALL_STEPS) != DID_NOTHING) {
                        done++;
                    }
                }
                tick++;
            }
            return done;
        }

        int letWork(int controller, int steps) {
            if (isTorn()) {
                finishTorn(controller);
                return FINISHED_TORN;
            }
            int taken = firstTakeable(controller);
            sortOutMail(controller, taken == NONE ? orders : taken);
            return taken == NONE ? DID_NOTHING : makeSteps(controller, taken, steps);
        }

        private void finishTorn(int controller) {
            put(values, fact(markerOrder, BLOCK), resultOn(values, markerOrder));
            complete(controller, markerOrder);
            setFact(markerOrder, FINISHED, 1);
            controllerAt(controller).finished++;
        }

        private int makeSteps(int controller, int order, int steps) {
            begin(order);
            if (steps > 1) {
                put(values, fact(order, BLOCK), resultOn(values, order));
            }
            if (steps < ALL_STEPS) {
                controllerAt(controller).fallAsleepTorn();
                return FELL_ASLEEP;
            }
            complete(controller, order);
            controllerAt(controller).drop(order);
            return DID_ORDER;
        }

        private void begin(int order) {
            markerOrder = order;
            markerValue = at(values, fact(order, BLOCK));
            setFact(order, STATE, BEGUN);
        }

        private void complete(int controller, int order) {
            setFact(order, STATE, DONE);
            setFact(order, DOER, controller);
            setFact(order, DONE_AT, tick);
            controllerAt(controller).done++;
        }

        /** Lets the arrived orders before the given one that are no longer open leave the mailbox. */
        private void sortOutMail(int controller, int end) {
            Controller sorter = controllerAt(controller);
            for (int order = 0; order < end; order++) {
                if (hasArrivedMail(controller, order) && !isOpen(order)) {
                    sorter.drop(order);
                    if (fact(order, STATE) == DONE && fact(order, DOER) != controller) {
                        sorter.quarrels++;
                    }
                }
            }
        }

        // ---- what holds of orders

        boolean isOpen(int order) {
            int state = fact(order, STATE);
            return state == TOLD || state == BEGUN;
        }

        boolean hasOpenOrder() {
            return countIn(TOLD) + countIn(BEGUN) > 0;
        }

        boolean isTorn() {
            return markerOrder != NONE && fact(markerOrder, STATE) == BEGUN;
        }

        boolean hasArrivedMail(int controller, int order) {
            return controllerAt(controller).holds(order) && fact(order, ARRIVAL + controller) <= tick;
        }

        int latestWith(int host, int number) {
            for (int order = orders - 1; order >= 0; order--) {
                if (fact(order, HOST) == host && fact(order, NUMBER) == number) {
                    return order;
                }
            }
            return NONE;
        }

        /**
         * A set of blocks, as bits, by which one of two orders waits for the other just if their sets meet. A fence has
         * all blocks: it touches none of them, but every order that is no fence touches at least one.
         */
        int claimOf(int order) {
            int kind = fact(order, KIND);
            if (kind == KIND_FENCE) {
                return (1 << BLOCKS) - 1;
            }
            int own = 1 << fact(order, BLOCK);
            return kind == KIND_COPY ? own | 1 << fact(order, OPERAND) : own;
        }

        /** Is the earlier order open, and does the later one wait for it? */
        boolean isAwaited(int earlier, int later) {
            return isOpen(earlier) && (claimOf(earlier) & claimOf(later)) != 0;
        }

        /** Returns NONE also for an order that is not open. */
        int firstAwaited(int order) {
            if (!isOpen(order)) {
                return NONE;
            }
            for (int earlier = 0; earlier < order; earlier++) {
                if (isAwaited(earlier, order)) {
                    return earlier;
                }
            }
            return NONE;
        }

        /** The order that a controller takes from its mailbox, if the order of the marker is not begun. */
        private int firstTakeable(int controller) {
            int claimed = 0;
            for (int order = 0; order < orders; order++) {
                if (isOpen(order)) {
                    int claim = claimOf(order);
                    if ((claim & claimed) == 0 && hasArrivedMail(controller, order)) {
                        return order;
                    }
                    claimed |= claim;
                }
            }
            return NONE;
        }

        int nextOf(int controller) {
            return isTorn() ? markerOrder : firstTakeable(controller);
        }

        int whyNot(int controller, int order) {
            if (nextOf(controller) == order) {
                return WOULD_TAKE;
            }
            if (!isOpen(order)) {
                return NOT_OPEN;
            }
            if (isTorn()) {
                return TORN_FIRST;
            }
            if (!controllerAt(controller).holds(order)) {
                return NOT_IN_MAILBOX;
            }
            if (!hasArrivedMail(controller, order)) {
                return NOT_ARRIVED;
            }
            return firstAwaited(order) == NONE ? OTHER_TAKEN : WAITS;
        }

        void reckonDepths(int[] depths) {
            for (int order = 0; order < orders; order++) {
                int depth = isOpen(order) ? 0 : NONE;
                for (int earlier = 0; earlier < order && depth != NONE; earlier++) {
                    if (isAwaited(earlier, order)) {
                        depth = Math.max(depth, 1 + at(depths, earlier));
                    }
                }
                put(depths, order, depth);
            }
        }

        void reckonFinals(int[] finals) {
            for (int block = 0; block < BLOCKS; block++) {
                put(finals, block, at(values, block));
            }
            for (int order = 0; order < orders; order++) {
                if (isOpen(order)) {
                    put(finals, fact(order, BLOCK), resultOn(finals, order));
                }
            }
        }

        /** What the block of an order becomes by it on blocks of these values; a fence leaves it as it is. */
        private int resultOn(int[] row, int order) {
            int block = fact(order, BLOCK);
            int operand = fact(order, OPERAND);
            switch (fact(order, KIND)) {
                case KIND_WRITE:
                    return operand;
                case KIND_ADD:
                    // the block may have its result already; only the marker still tells what it had before
                    return (fact(order, STATE) == BEGUN ? markerValue : at(row, block)) + operand;
                case KIND_COPY:
                    return at(row, operand);
                default:
                    return at(row, block);
            }
        }

        // ---- values that are asked for

        int arrivedMail(int controller) {
            int arrived = 0;
            for (int order = 0; order < orders; order++) {
                if (hasArrivedMail(controller, order)) {
                    arrived++;
                }
            }
            return arrived;
        }

        int mailAt(int controller, int index) {
            int before = 0;
            for (int order = 0; order < orders; order++) {
                if (controllerAt(controller).holds(order)) {
                    if (before == index) {
                        return order;
                    }
                    before++;
                }
            }
            return NONE;
        }

        int controllerFact(int controller, int what) {
            return what == CONTROLLER_ARRIVED ? arrivedMail(controller) : controllerAt(controller).ownFact(what);
        }

        int wholeFact(int what) {
            switch (what) {
                case 0:
                    return orders;
                case 1:
                    return countIn(TOLD);
                case 2:
                    return countIn(BEGUN);
                case 3:
                    return countIn(DONE);
                case 4:
                    return countIn(CANCELLED);
                case 5:
                    return tick;
                case 6:
                    return markerOrder;
                case 7:
                    return markerValue;
                case 8:
                    return zero.quarrels + one.quarrels;
                case 9:
                    return (zero.awake ? 1 : 0) + (one.awake ? 1 : 0);
                default:
                    return sumOfValues();
            }
        }

        private int countIn(int state) {
            int count = 0;
            for (int order = 0; order < orders; order++) {
                if (fact(order, STATE) == state) {
                    count++;
                }
            }
            return count;
        }

        private int sumOfValues() {
            int sum = 0;
            for (int block = 0; block < BLOCKS; block++) {
                sum += at(values, block);
            }
            return sum;
        }
    }

    /** A controller; its mailbox has a bit for each order, as orders stand in it by their numbers. */
    private static final class Controller {
        boolean awake = true;
        int delay = 0;
        int alarm = 0;
        long mailbox = 0L;
        int done = 0;
        int finished = 0;
        int quarrels = 0;
        int fallenAsleep = 0;

        void become(Controller other) {
            awake = other.awake;
            delay = other.delay;
            alarm = other.alarm;
            mailbox = other.mailbox;
            done = other.done;
            finished = other.finished;
            quarrels = other.quarrels;
            fallenAsleep = other.fallenAsleep;
        }

        void receive(int order) {
            mailbox |= 1L << order;
        }

        void drop(int order) {
            mailbox &= ~(1L << order);
        }

        boolean holds(int order) {
            return (mailbox >> order & 1L) != 0L;
        }

        int mailSize() {
            return Long.bitCount(mailbox);
        }

        void heedAlarm(int tick) {
            if (alarm != 0 && tick % alarm == 0) {
                awake = true;
            }
        }

        void fallAsleepTorn() {
            awake = false;
            fallenAsleep++;
        }

        /** All that controller() tells but how many orders have arrived, which only the drive knows. */
        int ownFact(int what) {
            switch (what) {
                case 0:
                    return awake ? 1 : 0;
                case 1:
                    return delay;
                case 2:
                    return alarm;
                case 3:
                    return mailSize();
                case 5:
                    return done;
                case 6:
                    return finished;
                case 7:
                    return quarrels;
                default:
                    return fallenAsleep;
            }
        }
    }

    /** The undo stack: a ring in which the newest state takes the place of the oldest one. */
    private static final class History {
        final Drive[] saved = new Drive[MOST_SAVED];
        int size = 0;
        int newest = 0;

        History() {
            for (int place = 0; place < saved.length; place++) {
                saved[place] = new Drive();
            }
        }

        void save(Drive drive) {
            newest = newest + 1 < MOST_SAVED ? newest + 1 : 0;
            size = size < MOST_SAVED ? size + 1 : MOST_SAVED;
            Drive place = savedAt(newest);
            if (place != null) {
                place.become(drive);
            }
        }

        /** Returns the number of states that are left. */
        int restoreTo(Drive drive) {
            Drive place = savedAt(newest);
            if (place != null && size > 0) {
                drive.become(place);
                newest = newest > 0 ? newest - 1 : MOST_SAVED - 1;
                size--;
            }
            return size;
        }

        private Drive savedAt(int place) {
            return place >= 0 && place < saved.length ? saved[place] : null;
        }
    }

    /** The words of the commands, with how many numbers follow them and the kind of order that they tell. */
    private enum Word {
        PUT("put", 4, KIND_WRITE),
        ADD("add", 4, KIND_ADD),
        COPY("copy", 4, KIND_COPY),
        FENCE("fence", 2, KIND_FENCE),
        CANCEL("cancel", 2, NONE),
        WAKE("wake", 1, NONE),
        SLEEP("sleep", 1, NONE),
        WORK("work", 2, NONE),
        DELAY("delay", 2, NONE),
        TICKS("ticks", 1, NONE);

        final String letters;
        final int numbers;
        final int kind;

        Word(String letters, int numbers, int kind) {
            this.letters = letters;
            this.numbers = numbers;
            this.kind = kind;
        }
    }

    /** The command text, and a reader that goes through it a command at a time. */
    private static final class CommandText {
        final int[] bytes = new int[LONGEST_TEXT];
        final int[] numbers = new int[MOST_NUMBERS_OF_A_COMMAND];
        int length = 0;
        int cursor = 0;
        Word word = null;

        boolean isFull() {
            return length >= LONGEST_TEXT;
        }

        int append(int value) {
            put(bytes, length, value);
            length++;
            return length;
        }

        int empty() {
            int before = length;
            length = 0;
            return before;
        }

        int numberAt(int index) {
            return at(numbers, index);
        }

        void rewind() {
            cursor = 0;
        }

        /** Returns NONE if the text has no fault. */
        int findFault() {
            rewind();
            skipSpaces();
            for (int commands = 0; commands < LONGEST_TEXT && cursor < length; commands++) {
                int fault = readCommand();
                if (fault != NONE) {
                    return fault;
                }
                skipSpaces();
            }
            return NONE;
        }

        /** Reads the next command of a text without fault; answers false if there is none. */
        boolean readNext() {
            skipSpaces();
            return cursor < length && readCommand() == NONE;
        }

        /** Reads the command at the cursor; returns its fault, or NONE. */
        private int readCommand() {
            int start = cursor;
            while (cursor < length && isLetter(byteAt(cursor))) {
                cursor++;
            }
            Word found = wordBetween(start, cursor);
            word = found;
            if (found == null) {
                return start;
            }
            for (int index = 0; index < found.numbers; index++) {
                if (!readNumber(index)) {
                    return cursor;
                }
            }
            skipSpaces();
            if (byteAt(cursor) != ';') {
                return cursor;
            }
            cursor++;
            return NONE;
        }

        /** Answers false, with the cursor at the fault, if no number stands there with a space in front of it. */
        private boolean readNumber(int index) {
            if (byteAt(cursor) != ' ') {
                return false;
            }
            skipSpaces();
            int digits = 0;
            int number = 0;
            while (digits < MOST_DIGITS && isDigit(byteAt(cursor))) {
                number = 10 * number + byteAt(cursor) - '0';
                digits++;
                cursor++;
            }
            put(numbers, index, number);
            return digits > 0;
        }

        private void skipSpaces() {
            while (cursor < length && byteAt(cursor) == ' ') {
                cursor++;
            }
        }

        private static boolean isLetter(int value) {
            return value >= 'a' && value <= 'z';
        }

        private static boolean isDigit(int value) {
            return value >= '0' && value <= '9';
        }

        private int byteAt(int index) {
            return index >= 0 && index < length ? at(bytes, index) : NONE;
        }

        private Word wordBetween(int start, int end) {
            for (int index = 0; index < WORDS.length; index++) {
                Word candidate = WORDS[index];
                if (candidate != null && standsBetween(candidate.letters, start, end)) {
                    return candidate;
                }
            }
            return null;
        }

        private boolean standsBetween(String letters, int start, int end) {
            if (letters.length() != end - start) {
                return false;
            }
            for (int index = 0; index < letters.length(); index++) {
                if (letters.charAt(index) != byteAt(start + index)) {
                    return false;
                }
            }
            return true;
        }
    }
}
