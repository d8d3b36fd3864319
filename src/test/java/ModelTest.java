import java.lang.reflect.Method;
import java.util.ArrayList;
import java.util.Arrays;
import java.util.Comparator;
import java.util.HashMap;
import java.util.List;
import java.util.Map;
import java.util.Random;

/** Runs of 512 calls, drawn from fixed seeds, on the class and on Model: all answers are the same. */
public final class ModelTest {
    private static final int RUNS = 100;
    private static final int CALLS = 512;

    /** How often a call is drawn, and the least and the greatest of each of its arguments. */
    private static final Map<String, int[]> CALL = new HashMap<>();

    static {
        call("sea", 4, 0, 27, 0, 12);
        call("day", 2, 0, 9999, 0, 2);
        call("light", 6, 0, 3, 0, 12);
        call("keeper", 6, 0, 5);
        call("of", 8, 0, 7, 0, 5);
        call("can", 2, 0, 7, 0, 1, 1, 13);
        call("set", 14, 0, 7, 1, 4, 0, 511);
        call("turn", 4, 0, 7, 0, 5);
        call("as", 3, 0, 7, 0, 5);
        call("days", 10, 1, 100);
        call("now", 8, 0, 7);
        call("on", 5, 0, 7, 0, 200, 0, 2);
        call("oil", 3, 0, 200);
        call("relief", 3);
        call("ashore", 3, 0, 7);
        call("knows", 3, 0, 7, 0, 8);
        call("dark", 3);
        call("meet", 3, 0, 7, 0, 7);
        call("rock", 3, 1, 100);
        call("kind", 3, 0, 7, 1, 100);
        call("enough", 1, 1, 60);
        call("beds", 3, 1, 100);
        call("storm", 3);
        call("change", 4, 1, 60);
        call("heard", 3, 0, 8, 0, 200);
        call("feed", 1, Integer.MIN_VALUE, Integer.MAX_VALUE, 1, 4);
        call("wipe", 1);
        call("text", 1);
        call("sheet", 5, 0, 3, 0, 64, 0, 40);
        call("write", 8, 0, 3, 0, 12);
        call("copy", 4, 0, 3, 0, 10, 0, 3, 0, 10, 0, 10);
        call("lays", 1, 0, 3);
        call("book", 2, 0, 3);
        call("read", 1, 0, 3, 0, 7);
        call("image", 2);
        call("undo", 2);
        call("tear", 1);
        call("count", 3, 0, 3);
        call("status", 3, -1, 6);
    }

    private final Random random;
    private final ReliefGales real = new ReliefGales();
    private final Model model = new Model();
    private final Map<String, Integer> asked;
    private final List<String> told = new ArrayList<>();
    private int calls = 0;

    private ModelTest(int seed, Map<String, Integer> asked) {
        random = new Random(seed);
        this.asked = asked;
    }

    private static void call(String name, int... row) {
        CALL.put(name, row);
    }

    public static void main(String[] args) throws Exception {
        Check check = new Check();
        int runs = args.length > 0 ? Integer.parseInt(args[0]) : RUNS;
        Map<String, Integer> asked = new HashMap<>();
        for (int seed = 1; seed <= runs; seed++) {
            ModelTest test = new ModelTest(seed, asked);
            String wrong = seed % 5 == 0 ? test.goToTheLastDays() : "";
            check.is("run of seed " + seed, wrong + test.run(), "");
        }
        check.is("calls that were asked", asked.keySet().equals(CALL.keySet()), true);
        check.end();
    }

    private String run() throws Exception {
        List<String> draws = new ArrayList<>();
        CALL.forEach((name, row) -> draws.addAll(java.util.Collections.nCopies(row[0], name)));
        draws.sort(Comparator.naturalOrder());
        while (calls < CALLS) {
            boolean texts = random.nextInt(40) == 0;
            String wrong = texts ? feedText() : ask(draws.get(random.nextInt(draws.size())));
            if (!wrong.isEmpty()) {
                return wrong;
            }
        }
        return "";
    }

    private String goToTheLastDays() throws Exception {
        String wrong = same("keeper", 0) + same("set", 0, 1, random.nextInt(2));
        for (int i = 0; i < 99; i++) {
            wrong += same("days", 100);
        }
        return wrong;
    }

    private String ask(String name) throws Exception {
        asked.merge(name, 1, Integer::sum);
        Method of = Arrays.stream(Model.class.getDeclaredMethods()).filter(m -> m.getName().equals(name)).findFirst()
            .orElseThrow();
        Object[] values = new Object[of.getParameterCount()];
        int[] row = CALL.get(name);
        for (int i = 0; i < values.length; i++) {
            if (of.getParameterTypes()[i] == long.class) {
                values[i] = number();
            } else {
                values[i] = value(row[2 * i + 1], row[2 * i + 2]);
            }
        }
        fit(name, values);
        return same(name, values);
    }

    private String same(String name, Object... values) throws Exception {
        if (calls >= CALLS) {
            return "";
        }
        calls++;
        Class<?>[] types = new Class<?>[values.length];
        for (int i = 0; i < values.length; i++) {
            types[i] = values[i] instanceof Long ? long.class : int.class;
        }
        long want = ((Number) Model.class.getDeclaredMethod(name, types).invoke(model, values)).longValue();
        long got = ((Number) ReliefGales.class.getMethod(name, types).invoke(real, values)).longValue();
        told.add(name + Arrays.toString(values) + " " + want);
        return got == want ? "" : "answered " + got + " behind " + told;
    }

    private int value(int least, int most) {
        int draw = random.nextInt(60);
        if (draw == 0) {
            return least - 1;
        }
        if (draw == 1) {
            return most + 1;
        }
        if (draw == 2) {
            return random.nextInt();
        }
        if (draw < 10) {
            return random.nextBoolean() ? least : most;
        }
        return (int) (least + Math.floorMod(random.nextLong(), (long) most - least + 1));
    }

    private long number() {
        return random.nextInt(3) == 0 ? random.nextLong() : random.nextInt(600) - 20;
    }

    /** Some calls want arguments that go together. */
    private void fit(String name, Object[] values) {
        if (name.equals("light") && values[0].equals(1) && random.nextInt(4) > 0) {
            values[1] = value(0, random.nextBoolean() ? 300 : 9999);
        }
        if (name.equals("light") && (int) values[0] >= 2 && random.nextInt(4) > 0) {
            values[1] = random.nextInt(4);
        }
        if (name.equals("set") && random.nextBoolean()) {
            values[1] = 1;
            values[2] = random.nextInt(2);
        }
        if (name.equals("set") && values[1].equals(4)) {
            values[2] = 9995 + random.nextInt(7);
        }
        if (name.equals("sheet") && random.nextInt(8) > 0) {
            values[1] = new int[] {8, 16, 64}[random.nextInt(3)];
            values[2] = random.nextInt(3) == 0 ? values[2] : (Object) random.nextInt(10);
        }
        if (name.equals("write") && random.nextBoolean()) {
            values[2] = (long) model.wordsOfFirst();
        }
    }

    private String feedText() throws Exception {
        String wrong = same("wipe");
        byte[] text = drawText().getBytes("ISO-8859-1");
        int at = 0;
        while (at < text.length && wrong.isEmpty()) {
            int n = Math.min(text.length - at, 1 + random.nextInt(4));
            int bytes = random.nextInt();
            for (int i = 0; i < n; i++) {
                bytes = bytes << 8 | text[at + i] & 255;
            }
            at += n;
            wrong = same("feed", bytes, n);
        }
        return wrong.isEmpty() ? same("text") : wrong;
    }

    private String drawText() {
        StringBuilder text = new StringBuilder(drawItem());
        for (int i = random.nextInt(5); i > 0; i--) {
            text.append(drawBlank()).append(';').append(drawBlank()).append(drawItem());
        }
        for (int i = random.nextInt(3); i > 0; i--) {
            int at = random.nextInt(text.length());
            switch (random.nextInt(4)) {
                case 0 -> text.deleteCharAt(at);
                case 1 -> text.insert(at, "a0; 9#".charAt(random.nextInt(6)));
                case 2 -> text.setLength(Math.max(1, at));
                default -> text.setCharAt(at, (char) random.nextInt(256));
            }
        }
        return text.toString();
    }

    private String drawBlank() {
        return " ".repeat(random.nextInt(3));
    }

    private String drawItem() {
        switch (random.nextInt(7)) {
            case 0: return "sea " + random.nextInt(29) + " " + random.nextInt(14);
            case 1: return "rock" + drawBlank() + random.nextInt(14);
            case 2: return "oil" + drawBlank() + random.nextInt(random.nextBoolean() ? 10050 : 300);
            case 3: return "beds" + drawBlank() + random.nextInt(5);
            default: return drawKeeper();
        }
    }

    private String drawKeeper() {
        StringBuilder item = new StringBuilder("keeper brother old new twin mate".split(" ")[random.nextInt(6)]);
        if (random.nextBoolean()) {
            item.append(" on");
        }
        if (random.nextBoolean()) {
            item.append(" knows");
            int n = random.nextInt(8) == 0 ? 5 : 1 + random.nextInt(4);
            for (int i = 0; i < n; i++) {
                item.append(' ').append(drawBlank()).append(random.nextInt(30) == 0 ? 9 : random.nextInt(9));
            }
        }
        return item.toString();
    }
}
