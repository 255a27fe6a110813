import java.util.Random;

/** All promises: runs of calls, made by a fixed seed, answered by OneKey as by the plain model. */
public final class ModelTest {
    private static final Due due = new Due("ModelTest");
    private static final String[] WORDS = {"plain", "oneway", "two", "weighed", "sticking", "false"};
    private static final int SMALL_RUNS = 400, LARGE_RUNS = 12, CALLS = 250;

    private final Random random;
    private final OneKey x = new OneKey();
    private final Model model = new Model();
    private final StringBuilder told = new StringBuilder();
    private final boolean large;
    private final String name;

    private ModelTest(int seed, boolean large) {
        this.random = new Random(seed);
        this.large = large;
        this.name = "run " + seed + " ";
    }

    public static void main(String[] args) {
        for (int seed = 0; seed < SMALL_RUNS && !due.anyWrong(); seed++) {
            new ModelTest(seed, false).run(CALLS);
        }
        for (int seed = 0; seed < LARGE_RUNS && !due.anyWrong(); seed++) {
            new ModelTest(10000 + seed, true).run(CALLS / 8);
        }
        due.end();
    }

    private void run(int calls) {
        tellGaol();
        for (int i = 0; i < calls && !due.anyWrong(); i++) {
            call();
            if (random.nextInt(20) == 0) {
                lookAround();
            }
        }
        if (due.anyWrong()) {
            System.out.println(told);
        }
    }

    private void is(String call, long got, long want) {
        told.append(call).append(" = ").append(want).append('\n');
        if (want != Model.FREE) {
            due.is(name + call, got, want);
        }
    }

    /** Mostly within 0 .. most, now and then a little outside or far off. */
    private int number(int most) {
        int kind = random.nextInt(40);
        if (kind == 0) {
            return -1;
        }
        if (kind == 1) {
            return most + 1;
        }
        if (kind == 2) {
            return random.nextInt();
        }
        return random.nextInt(most + 1);
    }

    private void call() {
        switch (random.nextInt(large ? 22 : 27)) {
            case 0, 1, 2, 3, 4, 5, 6 -> act();
            case 7, 8 -> fewest();
            case 9 -> {
                int s = number(3);
                is("by " + s, x.by(s), model.by(s));
            }
            case 10 -> {
                int door = number(7);
                is("worth " + door, x.worth(door), model.worth(door));
            }
            case 11 -> {
                int i = number(4) - 1;
                is("out " + i, x.out(i), model.out(i));
            }
            case 12 -> {
                int p = number(10);
                int e = number(6);
                int part = number(1);
                is("odds " + p + " " + e + " " + part, x.odds(p, e, part), model.odds(p, e, part));
            }
            case 13, 14 -> rows();
            case 15 -> {
                int minute = number(9);
                int door = number(7);
                is("heard " + minute + " " + door, x.heard(minute, door), model.heard(minute, door));
            }
            case 16 -> {
                int m = 1 + number(random.nextBoolean() ? 3 : 9);
                int what = number(1);
                is("night " + m + " " + what, x.night(m, what), model.night(m, what));
            }
            case 17 -> {
                int m = 1 + number(random.nextBoolean() ? 4 : 9);
                is("ask " + m, x.ask(m), model.ask(m));
            }
            case 18 -> {
                int k = number(1);
                is("keep " + k, x.keep(k), model.keep(k));
            }
            case 19 -> {
                int k = number(1);
                is("back " + k, x.back(k), model.back(k));
            }
            case 20 -> {
                int door = number(7);
                int as = number(7);
                is("as " + door + " " + as, x.as(door, as), model.as(door, as));
            }
            case 21 -> {
                if (random.nextInt(3) == 0) {
                    is("forget", x.forget(), model.forget());
                }
            }
            case 22, 23, 24 -> tellMore();
            case 25 -> tellFaulty();
            default -> {
                int n = number(8);
                long bytes = random.nextLong();
                is("write " + bytes + " " + n, x.write(bytes, n), model.write(bytes, n));
                if (random.nextBoolean()) {
                    is("erase", x.erase(), model.erase());
                }
            }
        }
    }

    private void act() {
        int code = number(99);
        if (random.nextInt(8) > 0) {
            int from = random.nextInt(100);
            for (int i = 0; i < 100; i++) {
                code = (from + i) % 100;
                if (model.can(code)) {
                    break;
                }
            }
        } else if (random.nextBoolean() && model.fewest(0) >= 0) {
            code = model.fewest(0);
        }
        is("act " + code, x.act(code), model.act(code));
    }

    private void fewest() {
        is("fewest -1", x.fewest(-1), model.fewest(-1));
        for (int i = 0; i < model.fewest(-1); i++) {
            is("fewest " + i, x.fewest(i), model.fewest(i));
        }
        int i = number(9) - 1;
        is("fewest " + i, x.fewest(i), model.fewest(i));
    }

    private void rows() {
        int kind = random.nextInt(6);
        if (kind == 0) {
            is("burn", x.burn(), model.burn());
        } else if (kind < 3) {
            is("judge", x.judge(), model.judge());
        } else if (kind == 3) {
            is("burn", x.burn(), model.burn());
            for (int i = 0; i < model.fewest(-1) && i < 21; i++) {
                is("row " + model.fewest(i), x.row(model.fewest(i)), model.row(model.fewest(i)));
            }
            is("judge", x.judge(), model.judge());
        } else {
            int code = number(99);
            is("row " + code, x.row(code), model.row(code));
        }
    }

    private void lookAround() {
        for (int what = -1; what <= 9; what++) {
            is("count " + what, x.count(what), model.count(what));
        }
        for (int room = -1; room <= 6; room++) {
            for (int what = -1; what <= 4; what++) {
                is("room " + room + " " + what, x.room(room, what), model.room(room, what));
            }
        }
        for (int door = -1; door <= 10; door++) {
            for (int what = -1; what <= 4; what++) {
                is("door " + door + " " + what, x.door(door, what), model.door(door, what));
            }
        }
        for (int guard = -1; guard <= 2; guard++) {
            for (int what = -1; what <= 3; what++) {
                is("guard " + guard + " " + what, x.guard(guard, what), model.guard(guard, what));
            }
        }
    }

    private void write(String text) {
        int at = 0;
        while (at < text.length()) {
            int n = Math.min(1 + random.nextInt(8), text.length() - at);
            long bytes = Due.bytes(text, at, n);
            is("write " + text.substring(at, at + n), x.write(bytes, n), model.write(bytes, n));
            at += n;
        }
    }

    private void doText(String text) {
        is("erase", x.erase(), model.erase());
        write(text);
        is("fault", x.fault(), model.fault());
        is("gaol", x.gaol(), model.gaol());
    }

    private void tellGaol() {
        int rooms = large ? 6 : 2 + random.nextInt(4);
        StringBuilder text = new StringBuilder("gaol " + rooms);
        int hungry = large ? 2 + random.nextInt(2) : 1 + random.nextInt(2);
        int first = random.nextInt(rooms);
        for (int i = 0; i < hungry; i++) {
            text.append(";hungry ").append((first + i) % rooms);
        }
        text.append(";soap ").append(random.nextInt(large ? 4 : 2));
        text.append(";guard 1 ").append(random.nextInt(2));
        text.append(";kitchen ").append(random.nextInt(2));
        doText(text.toString());
        text = new StringBuilder(doorLine(rooms));
        int doors = large ? 8 : 2 + random.nextInt(6);
        for (int i = 1; i < doors; i++) {
            text.append(';').append(doorLine(rooms));
        }
        doText(text.toString());
    }

    private String doorLine(int rooms) {
        int a = random.nextInt(rooms);
        int b = (a + 1 + random.nextInt(rooms - 1)) % rooms;
        return WORDS[random.nextInt(random.nextBoolean() ? 6 : 1)] + " " + a + " " + b + " " + random.nextInt(2);
    }

    private String anyLine() {
        int rooms = Math.max(2, model.count(0));
        return switch (random.nextInt(12)) {
            case 0 -> "gaol " + number(7);
            case 1 -> "kitchen " + number(rooms - 1);
            case 2 -> "hungry " + number(rooms - 1);
            case 3 -> "soap " + number(2);
            case 4, 5 -> "key " + number(rooms - 1);
            case 6, 7 -> "guard " + number(1) + " " + number(rooms - 1);
            default -> doorLine(rooms);
        };
    }

    private void tellMore() {
        if (random.nextInt(3) > 0) {
            return;
        }
        if (random.nextInt(4) == 0) {
            tellGaol();
            return;
        }
        StringBuilder text = new StringBuilder(anyLine());
        for (int i = random.nextInt(3); i > 0; i--) {
            text.append(';').append(anyLine());
        }
        doText(text.toString());
    }

    /** Texts with a byte more, a byte less or another byte, and texts of many lines. */
    private void tellFaulty() {
        for (int times = 0; times < 12; times++) {
            StringBuilder text = new StringBuilder(anyLine());
            for (int i = random.nextInt(random.nextBoolean() ? 3 : 12); i > 0; i--) {
                text.append(';').append(anyLine());
            }
            for (int i = random.nextInt(3); i > 0; i--) {
                int at = random.nextInt(text.length());
                char sign = "  ;;019aky.G\n\0\u00ff".charAt(random.nextInt(15));
                switch (random.nextInt(3)) {
                    case 0 -> text.insert(at, sign);
                    case 1 -> text.setCharAt(at, sign);
                    default -> text.deleteCharAt(at);
                }
                if (text.length() == 0) {
                    text.append(' ');
                }
            }
            is("erase", x.erase(), model.erase());
            write(text.toString());
            is("fault", x.fault(), model.fault());
        }
        if (random.nextInt(4) == 0) {
            is("gaol", x.gaol(), model.gaol());
        }
        is("erase", x.erase(), model.erase());
    }
}
