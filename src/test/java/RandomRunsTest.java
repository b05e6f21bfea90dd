import java.util.Arrays;
import java.util.Random;

/** Runs of at most 512 calls, drawn with fixed seeds, answered by the program as by the model. */
public final class RandomRunsTest {
    private static final int RUNS = 4000;
    private static final int CALLS = 512;
    private static final int[] VALUES = {-1, 0, 1, 2, 3, 4, 5, 7, 8, 13, 14, 18, 19, 255, 256, 65519, 65520,
        Integer.MIN_VALUE, Integer.MAX_VALUE};
    private static final String[] CALL_NAMES = {"secret", "create", "extend", "begin", "send", "end", "truncate",
        "close", "deliver", "damage", "lose", "cell", "circuit", "key", "relay", "data", "count", "loss"};

    private final Random random;
    private final OnionCells program = new OnionCells();
    private final Model model = new Model();
    private final int run;
    private final int roughness;
    private int calls = 0;
    private boolean same = true;

    private RandomRunsTest(int run) {
        this.run = run;
        this.random = new Random(run);
        this.roughness = run % 4;
    }

    public static void main(String[] args) {
        for (int run = 0; run < RUNS; run++) {
            new RandomRunsTest(run).play();
        }
        Check.finish();
    }

    private void play() {
        while (same && calls < CALLS) {
            act();
            look();
        }
    }

    private void act() {
        int what = random.nextInt(100);
        if (what < 3) {
            call(CALL_NAMES[random.nextInt(CALL_NAMES.length)]);
        } else if (what < 12) {
            call("create", circuit(), relay(), exponent());
        } else if (what < 27) {
            call("extend", circuit(), relay(), exponent());
        } else if (what < 39) {
            call("begin", circuit(), stream(), random.nextInt(3));
        } else if (what < 54) {
            call("send", circuit(), stream(), random.nextInt(8), random.nextInt(256));
        } else if (what < 57) {
            call("end", circuit(), stream());
        } else if (what < 60) {
            call("truncate", circuit(), random.nextInt(3));
        } else if (what < 61) {
            call("close", circuit());
        } else if (what < 62) {
            call("secret", relay(), exponent());
        } else if (what < 64 && roughness == 1) {
            call("lose", place());
        } else if (what < 66 && roughness == 2) {
            call("damage", place(), random.nextInt(14), random.nextInt(256));
        } else if (what < 75 && roughness == 3) {
            forge();
        } else if (what < 90 || roughness == 0) {
            call("deliver", 1 + random.nextInt(3));
        } else {
            call("deliver", 1 + random.nextInt(40));
        }
    }

    private void look() {
        int what = random.nextInt(12);
        if (what < 3) {
            call("cell", place(), random.nextInt(19));
        } else if (what < 5) {
            call("circuit", circuit(), random.nextInt(12));
        } else if (what < 7) {
            call("key", circuit(), random.nextInt(3), random.nextInt(4));
        } else if (what < 9) {
            call("relay", relay(), circuit(), random.nextInt(11));
        } else if (what < 10) {
            call("data", circuit(), random.nextInt(8));
        } else if (what < 11) {
            call("count", random.nextInt(5));
        } else {
            call("loss");
        }
    }

    /** Damage that is so well made that the cell is known all the same, with another order. */
    private void forge() {
        int i = place();
        if (i >= model.row.size() || model.row.get(i).inside == null) {
            return;
        }
        Model.C cell = model.row.get(i);
        int[] was = cell.inside;
        int order = random.nextInt(4) == 0 ? random.nextInt(256) : random.nextInt(11);
        int stream = random.nextInt(5);
        int length = random.nextInt(3) == 0 ? random.nextInt(256) : random.nextInt(8);
        int[] data = Arrays.copyOfRange(was, 7, 14);
        if (random.nextBoolean()) {
            data[0] = random.nextInt(6);
        }
        int[] becomes = Inside.sealed(cell.digest, order, stream, length, data);
        cell.inside = becomes;
        for (int k = 0; k < 14; k++) {
            if (was[k] != becomes[k]) {
                call("damage", i, k, was[k] ^ becomes[k]);
            }
        }
    }

    private int circuit() {
        return random.nextInt(run % 3 == 0 ? 1 : 4);
    }

    private int relay() {
        return 1 + random.nextInt(4);
    }

    private int stream() {
        return 1 + random.nextInt(3);
    }

    private int exponent() {
        return random.nextInt(3) == 0 ? 5 : 1 + random.nextInt(65519);
    }

    private int place() {
        return random.nextInt(Math.max(1, model.row.size()));
    }

    /** Any arguments, most of them wrong ones. */
    private void call(String name) {
        int[] arguments = new int[Call.method(OnionCells.class, name).getParameterCount()];
        for (int i = 0; i < arguments.length; i++) {
            arguments[i] = VALUES[random.nextInt(VALUES.length)];
        }
        call(name, arguments);
    }

    private void call(String name, int... arguments) {
        if (!same || calls == CALLS) {
            return;
        }
        calls++;
        Call call = new Call(name, arguments);
        String got = call.on(program);
        String due = call.on(model);
        same = got.equals(due);
        Check.holds("run " + run + ", call " + calls + ": " + call + " answered " + got + ", the model " + due
                + ": that they are the same", same);
    }
}
