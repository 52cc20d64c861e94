import java.util.ArrayList;
import java.util.List;
import java.util.function.Function;
import java.util.function.Supplier;

/**
 * A call that throws changes nothing: two objects are led the same way, one of them is asked the
 * call that is refused, and then both are asked the same calls, which must answer the same.
 */
final class Refusals {
    private Refusals() {
    }

    static void refused(String call, Class<?> want, Supplier<Gamefield> led, Function<Gamefield, Object> run) {
        Gamefield asked = led.get();
        Gamefield spared = led.get();
        Checks.due(call, Checks.outcome(() -> run.apply(asked)), want.getName());
        Checks.due("later calls behind " + call, laterAnswers(asked), laterAnswers(spared));
    }

    /** The call is refused on a new object, on one in the midst of its use, and on a full one. */
    static void refusedEverywhere(String call, Class<?> want, Function<Gamefield, Object> run) {
        refused(call + " on a new object", want, Gamefield::new, run);
        refused(call + " on a used object", want, Refusals::used, run);
        refused(call + " on a full object", want, Refusals::full, run);
    }

    /** Some numbers, seven changes kept of twelve, a basket that is no SPAN, a board with plays. */
    static Gamefield used() {
        Gamefield x = new Gamefield();
        for (int i = 0; i < 12; i++) {
            x.set(i * 5 % 8, i * 23 % 256);
        }
        x.undo();
        for (int number : new int[] {200, 0, 3, 255, 128}) {
            x.put(number);
        }
        x.turn(3, 3);
        x.turn(1, 2);
        x.turn(0, 1);
        return x;
    }

    /** 255 in each register, eight changes kept, all numbers in the basket, all coins heads up. */
    static Gamefield full() {
        Gamefield x = new Gamefield();
        for (int register = 0; register < 8; register++) {
            x.set(register, 255);
        }
        for (int number = 1; number < 256; number *= 2) {
            x.put(number);
        }
        x.close();
        for (int place = 0; place < 16; place++) {
            x.turn(place / 4, place % 4);
        }
        return x;
    }

    /** What some 250 calls answer that show all there is of an object, and change each part of it. */
    static List<Object> laterAnswers(Gamefield x) {
        List<Object> answers = new ArrayList<>();
        lookAtAll(x, answers);
        for (int i = 0; i < 9; i++) {
            answers.add(x.undo());
            lookAtRegisters(x, answers);
        }
        answers.add(x.set(2, 77));
        answers.add(x.product(3, 2, 2));
        answers.add(x.checksum());
        answers.add(x.undo());
        answers.add(x.undo());
        answers.add(x.put(9));
        answers.add(x.take(200));
        answers.add(x.shift(5));
        answers.add(x.scale(3));
        answers.add(x.checksum());
        answers.add(x.close());
        answers.add(x.turn(2, 2));
        answers.add(x.answer());
        answers.add(x.checksum());
        answers.add(x.clear());
        answers.add(x.sweep());
        answers.add(x.checksum());
        return answers;
    }

    private static void lookAtAll(Gamefield x, List<Object> answers) {
        lookAtRegisters(x, answers);
        answers.add(x.size());
        for (int place = 0; place < 12; place++) {
            int p = place;
            answers.add(Checks.outcome(() -> x.numberAt(p)));
            answers.add(x.has(21 * p));
        }
        answers.add(x.leastOut());
        answers.add(x.rank());
        answers.add(x.share());
        for (int place = 0; place < 16; place++) {
            answers.add(x.isUp(place / 4, place % 4));
        }
        answers.add(x.worth());
        answers.add(x.plays());
        answers.add(x.best());
        answers.add(x.mean());
        answers.add(x.isSound(0, 7));
    }

    private static void lookAtRegisters(Gamefield x, List<Object> answers) {
        for (int register = 0; register < 8; register++) {
            int r = register;
            answers.add(x.at(r));
            answers.add(Checks.outcome(() -> x.order(r)));
        }
        answers.add(x.checksum());
    }
}
