import java.lang.reflect.InvocationTargetException;
import java.lang.reflect.Method;
import java.util.ArrayList;
import java.util.Arrays;
import java.util.List;

/**
 * Long runs of calls on fresh objects, each answer held against Model. The runs are the same
 * each time: the numbers come from a fixed sequence.
 */
public final class ModelTest {
    private static final int RUNS = 400;
    private static final int CALLS = 512;
    private static final String[] QUESTIONS = {"turn", "left", "value", "bestMove", "margin",
        "result", "nodes", "cuts", "hits", "entries", "hitShare", "firstError", "savedStates",
        "digest"};

    private static long sequence = 20261119L;
    private static int wrong = 0;

    private final BoundSearch real = new BoundSearch();
    private final Model model = new Model();
    private final List<String> told = new ArrayList<>();

    static int below(int bound) {
        sequence = sequence * 6364136223846793005L + 1442695040888963407L;
        return (int) ((sequence >>> 33) % bound);
    }

    static int between(int least, int greatest) {
        return least + below(greatest - least + 1);
    }

    /** Mostly in range, now and then just outside of it or far away. */
    static int argument(int least, int greatest) {
        return switch (below(20)) {
            case 0 -> least - 1;
            case 1 -> greatest + 1;
            case 2 -> below(2) == 0 ? Integer.MIN_VALUE : Integer.MAX_VALUE;
            case 3 -> least;
            case 4 -> greatest;
            default -> between(least, greatest);
        };
    }

    private static String answer(Object object, String name, Object... arguments) {
        try {
            Class<?>[] types = new Class<?>[arguments.length];
            for (int index = 0; index < types.length; index++) {
                types[index] = arguments[index] instanceof Boolean ? boolean.class : int.class;
            }
            Method method = object.getClass().getMethod(name, types);
            return String.valueOf(method.invoke(object, arguments));
        } catch (InvocationTargetException e) {
            return "throws." + e.getCause().getClass().getSimpleName();
        } catch (ReflectiveOperationException e) {
            throw new AssertionError(e);
        }
    }

    private void call(String name, Object... arguments) {
        if (told.size() >= CALLS) {
            return;
        }
        String due = answer(model, name, arguments);
        String got = answer(real, name, arguments);
        told.add(name + Arrays.toString(arguments) + " -> " + got);
        if (!due.equals(got)) {
            wrong++;
            if (wrong <= 3) {
                told.forEach(System.out::println);
                System.out.println("due is " + due);
            }
        }
    }

    private void type(String text) {
        for (char sign : text.toCharArray()) {
            call("append", (int) sign);
        }
    }

    private static String row(int piles) {
        StringBuilder row = new StringBuilder();
        int greatest = below(4) == 0 ? 3 : 20;
        for (int pile = 0; pile < piles; pile++) {
            row.append(pile == 0 ? "" : ",").append(between(1, greatest));
        }
        return row.toString();
    }

    private void loadRow() {
        call("clearText");
        type(row(below(3) == 0 ? between(1, 12) : between(5, 12)));
        call("firstError");
        call("load");
    }

    private void typeAnything() {
        String signs = "0123456789,,,,12.";
        int length = below(12) == 0 ? 61 : between(1, 6);
        for (int index = 0; index < length; index++) {
            boolean isStrange = below(12) == 0;
            call("append", isStrange ? argument(33, 126) : signs.charAt(below(signs.length())));
            if (below(4) == 0) {
                call("firstError");
            }
        }
        call("load");
        if (below(3) == 0) {
            call("clearText");
        }
    }

    private void searchSomething() {
        switch (below(4)) {
            case 0 -> call("search", 12, -240, 241);
            case 1 -> {
                int lower = between(-40, 40);
                call("search", between(1, 12), lower, lower + between(1, 12));
            }
            case 2 -> call("search", argument(0, 12), between(-30, 0), between(1, 30));
            default -> call("search", argument(0, 12), argument(-240, 240), argument(-239, 241));
        }
        call("result");
        call("nodes");
        call("cuts");
        call("hits");
        call("entries");
        call("hitShare");
        for (int entry = 0; entry < 4; entry++) {
            int first = argument(0, 11);
            int count = argument(1, 12);
            call("entryKind", first, count);
            call("entryValue", first, count);
        }
    }

    private void askGame() {
        for (int move = -1; move <= 4; move++) {
            call("resultOf", move);
        }
        call("line", argument(0, 12));
        call("line", between(0, 5));
        call("pile", argument(0, 11));
        call("pile", between(0, 4));
        call("coins", argument(0, 1));
        call("order", argument(0, 3));
    }

    private void change() {
        switch (below(12)) {
            case 0 -> loadRow();
            case 1 -> typeAnything();
            case 2, 3 -> call("play", argument(0, 3));
            case 4 -> call("playBest", below(2) == 0 ? between(1, 3) : argument(1, 12));
            case 5, 6 -> searchSomething();
            case 7 -> call("setOrder", argument(0, 23));
            case 8 -> call("setLimit", below(2) == 0 ? between(1, 200) : argument(1, 5000));
            case 9 -> call("useTable", below(2) == 0);
            default -> call("undo");
        }
    }

    private void run() {
        call("digest");
        if (below(4) > 0) {
            loadRow();
        }
        while (told.size() < CALLS) {
            change();
            call("digest");
            switch (below(6)) {
                case 0 -> askGame();
                case 1 -> call("nodesWith", argument(0, 23));
                case 2 -> {
                    if (below(4) == 0) {
                        call("bestOrder");
                    }
                }
                default -> call(QUESTIONS[below(QUESTIONS.length)]);
            }
        }
    }

    public static void main(String[] args) {
        for (int run = 0; run < RUNS; run++) {
            new ModelTest().run();
        }
        System.out.println(wrong == 0 ? "all runs are as the model" : wrong + " answers differ");
        if (wrong != 0) {
            System.exit(1);
        }
    }
}
