import java.util.ArrayDeque;
import java.util.ArrayList;
import java.util.Deque;
import java.util.List;
import java.util.Map;

/**
 * The document once more, word by word and without a thought of speed or room, so that runs of calls can be compared
 * with it. It is written apart from WokenDrive and shares nothing with it.
 */
final class PlainDrive {
    private static final Map<String, Integer> NUMBERS_OF_WORDS = Map.of("put", 4, "add", 4, "copy", 4, "fence", 2,
            "cancel", 2, "wake", 1, "sleep", 1, "work", 2, "delay", 2, "ticks", 1);

    private static final class Order {
        int host;
        int number;
        int kind;
        int block;
        int operand;
        int state;
        int doer = -1;
        int told;
        int doneAt = -1;
        int finished;
        int[] arrivals = new int[2];

        Order copy() {
            Order copy = new Order();
            copy.host = host;
            copy.number = number;
            copy.kind = kind;
            copy.block = block;
            copy.operand = operand;
            copy.state = state;
            copy.doer = doer;
            copy.told = told;
            copy.doneAt = doneAt;
            copy.finished = finished;
            copy.arrivals = arrivals.clone();
            return copy;
        }

        boolean open() {
            return state == 0 || state == 1;
        }

        List<Integer> touched() {
            List<Integer> touched = new ArrayList<>();
            if (kind != 3) {
                touched.add(block);
            }
            if (kind == 2) {
                touched.add(operand);
            }
            return touched;
        }
    }

    private static final class Controller {
        boolean awake = true;
        int delay;
        int alarm;
        List<Integer> mailbox = new ArrayList<>();
        int done;
        int finished;
        int quarrels;
        int falls;

        Controller copy() {
            Controller copy = new Controller();
            copy.awake = awake;
            copy.delay = delay;
            copy.alarm = alarm;
            copy.mailbox = new ArrayList<>(mailbox);
            copy.done = done;
            copy.finished = finished;
            copy.quarrels = quarrels;
            copy.falls = falls;
            return copy;
        }
    }

    private static final class State {
        int[] blocks = new int[16];
        List<Order> orders = new ArrayList<>();
        Controller[] controllers = {new Controller(), new Controller()};
        int marker = -1;
        int markerValue;
        int tick;

        State copy() {
            State copy = new State();
            copy.blocks = blocks.clone();
            for (Order order : orders) {
                copy.orders.add(order.copy());
            }
            copy.controllers = new Controller[] {controllers[0].copy(), controllers[1].copy()};
            copy.marker = marker;
            copy.markerValue = markerValue;
            copy.tick = tick;
            return copy;
        }

        boolean waits(int later, int earlier) {
            Order one = orders.get(later);
            Order other = orders.get(earlier);
            if (earlier >= later || !other.open()) {
                return false;
            }
            if (one.kind == 3 || other.kind == 3) {
                return true;
            }
            for (int block : one.touched()) {
                if (other.touched().contains(block)) {
                    return true;
                }
            }
            return false;
        }

        boolean waitsForAny(int order) {
            for (int earlier = 0; earlier < order; earlier++) {
                if (waits(order, earlier)) {
                    return true;
                }
            }
            return false;
        }

        boolean arrived(int controller, int order) {
            return orders.get(order).arrivals[controller] <= tick;
        }

        int arrivedCount(int controller) {
            int count = 0;
            for (int order : controllers[controller].mailbox) {
                count += arrived(controller, order) ? 1 : 0;
            }
            return count;
        }

        boolean torn() {
            return marker != -1 && orders.get(marker).state == 1;
        }

        void stepOne(int number) {
            Order order = orders.get(number);
            marker = number;
            markerValue = order.kind == 3 ? blocks[0] : blocks[order.block];
            order.state = 1;
        }

        void stepTwo(int number) {
            Order order = orders.get(number);
            if (order.kind == 0) {
                blocks[order.block] = order.operand;
            } else if (order.kind == 1) {
                blocks[order.block] = markerValue + order.operand;
            } else if (order.kind == 2) {
                blocks[order.block] = blocks[order.operand];
            }
        }

        void stepThree(int number, int controller) {
            Order order = orders.get(number);
            order.state = 2;
            order.doer = controller;
            order.doneAt = tick;
            controllers[controller].done++;
        }

        int work(int number, int steps) {
            Controller controller = controllers[number];
            if (torn()) {
                stepTwo(marker);
                stepThree(marker, number);
                orders.get(marker).finished = 1;
                controller.finished++;
                return 1;
            }
            for (int order : new ArrayList<>(controller.mailbox)) {
                if (arrived(number, order)) {
                    if (!orders.get(order).open()) {
                        controller.mailbox.remove(Integer.valueOf(order));
                        if (orders.get(order).state == 2 && orders.get(order).doer == 1 - number) {
                            controller.quarrels++;
                        }
                    } else if (!waitsForAny(order)) {
                        return take(number, order, steps);
                    }
                }
            }
            return 0;
        }

        private int take(int number, int order, int steps) {
            stepOne(order);
            if (steps >= 2) {
                stepTwo(order);
            }
            if (steps == 3) {
                stepThree(order, number);
                controllers[number].mailbox.remove(Integer.valueOf(order));
                return 2;
            }
            controllers[number].awake = false;
            controllers[number].falls++;
            return 3;
        }

        int passTick() {
            int before = countState(2);
            for (Controller controller : controllers) {
                if (controller.alarm != 0 && tick % controller.alarm == 0) {
                    controller.awake = true;
                }
            }
            int[] turns = tick % 2 == 0 ? new int[] {0, 1} : new int[] {1, 0};
            for (int number : turns) {
                if (controllers[number].awake) {
                    work(number, 3);
                }
            }
            int done = countState(2) - before;
            tick++;
            return done;
        }

        int countState(int state) {
            int count = 0;
            for (Order order : orders) {
                count += order.state == state ? 1 : 0;
            }
            return count;
        }

        /** What a worker would do is found by letting a copy do it. */
        int next(int number) {
            State copy = copy();
            boolean torn = copy.torn();
            int before = copy.marker;
            int result = copy.work(number, 1);
            return result == 0 ? -1 : torn ? before : copy.marker;
        }

        /** Each depth is kept in the list, as asking for it anew would double the work with each order. */
        int depth(int order) {
            List<Integer> depths = new ArrayList<>();
            for (int each = 0; each <= order; each++) {
                int depth = orders.get(each).open() ? 0 : -1;
                for (int earlier = 0; earlier < each && depth >= 0; earlier++) {
                    if (waits(each, earlier)) {
                        depth = Math.max(depth, 1 + depths.get(earlier));
                    }
                }
                depths.add(depth);
            }
            return depths.get(order);
        }
    }

    private State state = new State();
    private final Deque<State> saved = new ArrayDeque<>();
    private String text = "";

    private static void index(boolean fine) {
        if (!fine) {
            throw new IndexOutOfBoundsException();
        }
    }

    private static void argument(boolean fine) {
        if (!fine) {
            throw new IllegalArgumentException();
        }
    }

    private static void state(boolean fine) {
        if (!fine) {
            throw new IllegalStateException();
        }
    }

    private static boolean in(int value, int least, int greatest) {
        return least <= value && value <= greatest;
    }

    private void push(State before) {
        saved.addLast(before);
        if (saved.size() > 4) {
            saved.removeFirst();
        }
    }

    /** Makes the call on a copy, which takes the place of the state if nothing is thrown. */
    private int undoable(Check.Call call) {
        State before = state;
        state = before.copy();
        try {
            int answer = (int) call.answer();
            push(before);
            return answer;
        } catch (RuntimeException e) {
            state = before;
            throw e;
        }
    }

    int order(int host, int number, int kind, int block, int operand) {
        return undoable(() -> tell(host, number, kind, block, operand));
    }

    private int tell(int host, int number, int kind, int block, int operand) {
        argument(in(host, 0, 3) && in(number, 0, 31) && in(kind, 0, 3));
        argument(kind == 3 ? block == 0 : in(block, 0, 15));
        argument(kind == 3 ? operand == 0 : kind == 2 ? in(operand, 0, 15) : in(operand, -999, 999));
        state(state.orders.size() < 40);
        int latest = orderWith(host, number);
        state(latest == -1 || !state.orders.get(latest).open());
        Order order = new Order();
        order.host = host;
        order.number = number;
        order.kind = kind;
        order.block = block;
        order.operand = operand;
        order.told = state.tick;
        for (int controller = 0; controller < 2; controller++) {
            order.arrivals[controller] = state.tick + state.controllers[controller].delay;
            state.controllers[controller].mailbox.add(state.orders.size());
        }
        state.orders.add(order);
        return state.orders.size() - 1;
    }

    int cancel(int host, int number) {
        return undoable(() -> callOff(host, number));
    }

    private int callOff(int host, int number) {
        int latest = orderWith(host, number);
        state(latest != -1 && state.orders.get(latest).state == 0);
        state.orders.get(latest).state = 3;
        return latest;
    }

    int wake(int controller) {
        return undoable(() -> setAwake(controller, true));
    }

    int sleep(int controller) {
        return undoable(() -> setAwake(controller, false));
    }

    private int setAwake(int controller, boolean awake) {
        index(in(controller, 0, 1));
        state(state.controllers[controller].awake != awake);
        state.controllers[controller].awake = awake;
        return state.arrivedCount(controller);
    }

    int setDelay(int controller, int delay) {
        return undoable(() -> putDelay(controller, delay));
    }

    private int putDelay(int controller, int delay) {
        index(in(controller, 0, 1));
        argument(in(delay, 0, 20));
        int previous = state.controllers[controller].delay;
        state.controllers[controller].delay = delay;
        return previous;
    }

    int setAlarm(int controller, int alarm) {
        return undoable(() -> {
            index(in(controller, 0, 1));
            argument(in(alarm, 0, 20));
            int previous = state.controllers[controller].alarm;
            state.controllers[controller].alarm = alarm;
            return previous;
        });
    }

    int work(int controller, int steps) {
        return undoable(() -> letWork(controller, steps));
    }

    private int letWork(int controller, int steps) {
        index(in(controller, 0, 1));
        argument(in(steps, 1, 3));
        state(state.controllers[controller].awake);
        return state.work(controller, steps);
    }

    int pass(int ticks) {
        return undoable(() -> letPass(ticks));
    }

    private int letPass(int ticks) {
        argument(in(ticks, 1, 50));
        state(state.tick + ticks <= 9999);
        int done = 0;
        for (int tick = 0; tick < ticks; tick++) {
            done += state.passTick();
        }
        return done;
    }

    int lose(int controller) {
        return undoable(() -> {
            index(in(controller, 0, 1));
            int lost = state.controllers[controller].mailbox.size();
            state.controllers[controller].mailbox.clear();
            return lost;
        });
    }

    int block(int block) {
        index(in(block, 0, 15));
        return state.blocks[block];
    }

    int orderOf(int number, int what) {
        index(in(number, 0, state.orders.size() - 1));
        argument(in(what, 0, 9));
        Order order = state.orders.get(number);
        return new int[] {order.host, order.number, order.kind, order.block, order.operand, order.state, order.doer,
            order.told, order.doneAt, order.finished}[what];
    }

    int orderWith(int host, int number) {
        argument(in(host, 0, 3) && in(number, 0, 31));
        int latest = -1;
        for (int order = 0; order < state.orders.size(); order++) {
            if (state.orders.get(order).host == host && state.orders.get(order).number == number) {
                latest = order;
            }
        }
        return latest;
    }

    int controller(int number, int what) {
        index(in(number, 0, 1));
        argument(in(what, 0, 8));
        Controller controller = state.controllers[number];
        return new int[] {controller.awake ? 1 : 0, controller.delay, controller.alarm, controller.mailbox.size(),
            state.arrivedCount(number), controller.done, controller.finished, controller.quarrels,
            controller.falls}[what];
    }

    int mail(int number, int index) {
        index(in(number, 0, 1));
        argument(index >= 0);
        List<Integer> mailbox = state.controllers[number].mailbox;
        return index < mailbox.size() ? mailbox.get(index) : -1;
    }

    int whole(int what) {
        argument(in(what, 0, 11));
        Controller zero = state.controllers[0];
        Controller one = state.controllers[1];
        int sum = 0;
        for (int value : state.blocks) {
            sum += value;
        }
        return new int[] {state.orders.size(), state.countState(0), state.countState(1), state.countState(2),
            state.countState(3), state.tick, state.marker, state.markerValue, zero.quarrels + one.quarrels,
            (zero.awake ? 1 : 0) + (one.awake ? 1 : 0), sum, text.length()}[what];
    }

    int waitsFor(int order) {
        index(in(order, 0, state.orders.size() - 1));
        for (int earlier = 0; state.orders.get(order).open() && earlier < order; earlier++) {
            if (state.waits(order, earlier)) {
                return earlier;
            }
        }
        return -1;
    }

    int depth(int order) {
        index(in(order, 0, state.orders.size() - 1));
        return state.depth(order);
    }

    int nextFor(int controller) {
        index(in(controller, 0, 1));
        return state.next(controller);
    }

    int reason(int controller, int order) {
        index(in(controller, 0, 1) && in(order, 0, state.orders.size() - 1));
        boolean[] applies = {
            state.next(controller) == order,
            !state.orders.get(order).open(),
            state.torn() && state.marker != order,
            !state.controllers[controller].mailbox.contains(order),
            !state.arrived(controller, order),
            state.waitsForAny(order),
        };
        for (int reason = 0; reason < applies.length; reason++) {
            if (applies[reason]) {
                return reason;
            }
        }
        return 6;
    }

    int doneIn() {
        State copy = state.copy();
        int ticks = 0;
        while (copy.countState(0) + copy.countState(1) > 0) {
            if (ticks == 200) {
                return -1;
            }
            copy.passTick();
            ticks++;
        }
        return ticks;
    }

    int finalValue(int block) {
        index(in(block, 0, 15));
        State copy = state.copy();
        for (int order = 0; order < copy.orders.size(); order++) {
            if (copy.orders.get(order).open()) {
                Order open = copy.orders.get(order);
                int value = open.state == 1 ? state.markerValue : copy.blocks[open.block];
                copy.markerValue = value;
                copy.stepTwo(order);
            }
        }
        return copy.blocks[block];
    }

    int type(int value) {
        argument(in(value, 0, 127));
        state(text.length() < 150);
        text += (char) value;
        return text.length();
    }

    int clearCommands() {
        int length = text.length();
        text = "";
        return length;
    }

    int runCommands() {
        List<List<String>> commands = new ArrayList<>();
        int fault = read(commands);
        if (fault != -1) {
            return -10 - fault;
        }
        push(state.copy());
        int carriedOut = 0;
        for (List<String> command : commands) {
            try {
                carryOut(command);
            } catch (RuntimeException e) {
                break;
            }
            carriedOut++;
        }
        return carriedOut;
    }

    private void carryOut(List<String> command) {
        int[] numbers = new int[command.size() - 1];
        for (int index = 0; index < numbers.length; index++) {
            numbers[index] = Integer.parseInt(command.get(index + 1));
        }
        switch (command.get(0)) {
            case "put" -> tell(numbers[0], numbers[1], 0, numbers[2], numbers[3]);
            case "add" -> tell(numbers[0], numbers[1], 1, numbers[2], numbers[3]);
            case "copy" -> tell(numbers[0], numbers[1], 2, numbers[2], numbers[3]);
            case "fence" -> tell(numbers[0], numbers[1], 3, 0, 0);
            case "cancel" -> callOff(numbers[0], numbers[1]);
            case "wake" -> setAwake(numbers[0], true);
            case "sleep" -> setAwake(numbers[0], false);
            case "work" -> letWork(numbers[0], numbers[1]);
            case "delay" -> putDelay(numbers[0], numbers[1]);
            case "ticks" -> letPass(numbers[0]);
            default -> throw new AssertionError(command.get(0));
        }
    }

    /** A byte after the other, with what may stand next known at each; the end of the text is told as byte -1. */
    private int read(List<List<String>> commands) {
        final int start = 0;
        final int inWord = 1;
        final int spaceDue = 2;
        final int digitDue = 3;
        final int inNumber = 4;
        final int endDue = 5;
        int mode = start;
        int wordAt = 0;
        List<String> command = new ArrayList<>();
        for (int at = 0; at <= text.length(); at++) {
            int got = at == text.length() ? -1 : text.charAt(at);
            boolean space = got == ' ';
            boolean letter = got >= 'a' && got <= 'z';
            boolean digit = got >= '0' && got <= '9';
            if (mode == inWord && !letter) {
                command.add(text.substring(wordAt, at));
                if (!NUMBERS_OF_WORDS.containsKey(command.get(0))) {
                    return wordAt;
                }
                mode = spaceDue;
            }
            int due = command.isEmpty() ? 0 : NUMBERS_OF_WORDS.get(command.get(0));
            boolean complete = command.size() == due + 1;
            if (mode == start && letter) {
                mode = inWord;
                wordAt = at;
                command = new ArrayList<>();
            } else if (mode == start && got == -1) {
                return -1;
            } else if (mode == start && space || mode == inWord) {
                continue;
            } else if (mode == spaceDue && space) {
                mode = digitDue;
            } else if (mode == digitDue && space) {
                continue;
            } else if (mode == digitDue && digit) {
                command.add("" + (char) got);
                mode = inNumber;
            } else if (mode == inNumber && digit && command.get(command.size() - 1).length() < 3) {
                command.set(command.size() - 1, command.get(command.size() - 1) + (char) got);
            } else if (mode == inNumber && space) {
                mode = complete ? endDue : digitDue;
            } else if (mode == endDue && space) {
                continue;
            } else if ((mode == inNumber || mode == endDue) && got == ';' && complete) {
                commands.add(command);
                command = new ArrayList<>();
                mode = start;
            } else {
                return at;
            }
        }
        throw new AssertionError("the end of the text has an answer");
    }

    int undo() {
        state(!saved.isEmpty());
        state = saved.removeLast();
        return saved.size();
    }

    long digest() {
        long hash = 43490;
        hash = 31 * hash + saved.size();
        for (int what = 0; what < 12; what++) {
            hash = 31 * hash + whole(what);
        }
        for (int block = 0; block < 16; block++) {
            hash = 31 * hash + block(block);
            hash = 31 * hash + finalValue(block);
        }
        for (int order = 0; order < state.orders.size(); order++) {
            for (int what = 0; what < 10; what++) {
                hash = 31 * hash + orderOf(order, what);
            }
            hash = 31 * hash + waitsFor(order);
            hash = 31 * hash + depth(order);
        }
        for (int controller = 0; controller < 2; controller++) {
            for (int what = 0; what < 9; what++) {
                hash = 31 * hash + controller(controller, what);
            }
            for (int order : state.controllers[controller].mailbox) {
                hash = 31 * hash + order;
            }
            hash = 31 * hash + nextFor(controller);
        }
        return hash;
    }
}
