import java.util.function.Supplier;
import java.util.function.ToLongFunction;

/** Makes a call to one of two objects that were made alike, and looks whether anything tells them apart behind it. */
final class Twins {
    /** Joined to the text that is there, it makes two whole lines of what 'busy' has written. */
    private static final String REST = "gry 5";

    private final Due due;
    private final Supplier<OneKey> made;

    Twins(Due due, Supplier<OneKey> made) {
        this.due = due;
        this.made = made;
    }

    /** An object in which everything that can change is other than at first. */
    static OneKey busy() {
        OneKey x = Due.told(
            "gaol 6;plain 0 1 1;oneway 1 2 0;two 2 3 1;weighed 3 4 0;sticking 0 5 1;false 5 3 1;hungry 2;hungry 1;soap 2",
            "plain 4 0 0;kitchen 1;guard 1 1;key 0;oneway 2 0 0");
        x.keep(0);
        x.act(0);
        x.act(14);
        x.act(0);
        x.act(52);
        x.keep(1);
        x.act(53);
        x.act(52);
        for (int code : new int[] {14, 52, 0, 14, 49}) {
            x.row(code);
        }
        x.heard(0, 0);
        x.heard(3, 1);
        x.heard(6, 0);
        Due.write(x, "key 5;hun");
        return x;
    }

    /** The call answers as is due and changes nothing. */
    void same(String name, ToLongFunction<OneKey> call, long want) {
        OneKey one = made.get();
        OneKey other = made.get();
        due.is(name, call.applyAsLong(one), want);
        String[] behind = picture(one).split("\n");
        String[] without = picture(other).split("\n");
        due.is(name + ": as many answers behind it", behind.length, without.length);
        for (int i = 0; i < behind.length && i < without.length; i++) {
            due.holds(name + " changes " + without[i] + " to " + behind[i], behind[i].equals(without[i]));
        }
    }

    /** All that an object tells, to the end of what it holds: it is of no more use behind that. */
    private static String picture(OneKey x) {
        StringBuilder all = new StringBuilder();
        looks(x, all);
        foretold(x, all);
        nights(x, all);
        for (int k = 0; k < 2; k++) {
            row(all, "back(" + k + ")", x.back(k));
            stands(x, all);
            row(all, "judge()", x.judge());
        }
        row(all, "burn()", x.burn());
        row(all, "forget()", x.forget());
        row(all, "the rest written", Due.write(x, REST));
        row(all, "fault()", x.fault());
        row(all, "gaol()", x.gaol());
        looks(x, all);
        row(all, "erase()", x.erase());
        return all.toString();
    }

    private static void row(StringBuilder all, String call, long answer) {
        all.append(call).append(" = ").append(answer).append('\n');
    }

    private static void looks(OneKey x, StringBuilder all) {
        stands(x, all);
        for (int room = 0; room < x.count(0); room++) {
            row(all, "room(" + room + ", 3)", x.room(room, 3));
        }
        for (int door = 0; door < x.count(1); door++) {
            for (int what = 0; what < 4; what++) {
                row(all, "door(" + door + ", " + what + ")", x.door(door, what));
            }
        }
        row(all, "fault()", x.fault());
        row(all, "judge()", x.judge());
    }

    private static void stands(OneKey x, StringBuilder all) {
        for (int what = 0; what < 9; what++) {
            row(all, "count(" + what + ")", x.count(what));
        }
        for (int guard = 0; guard < 2; guard++) {
            for (int what = 0; what < 3; what++) {
                row(all, "guard(" + guard + ", " + what + ")", x.guard(guard, what));
            }
        }
    }

    private static void foretold(OneKey x, StringBuilder all) {
        for (int i = -1; i < 12; i++) {
            row(all, "fewest(" + i + ")", x.fewest(i));
        }
        for (int i = -1; i < 6; i++) {
            row(all, "out(" + i + ")", x.out(i));
        }
        for (int s = 0; s < 4; s++) {
            row(all, "by(" + s + ")", x.by(s));
        }
        for (int door = 0; door < x.count(1); door++) {
            row(all, "worth(" + door + ")", x.worth(door));
        }
        row(all, "odds(3, 2, 0)", x.odds(3, 2, 0));
        row(all, "odds(3, 2, 1)", x.odds(3, 2, 1));
    }

    private static void nights(OneKey x, StringBuilder all) {
        for (int m = 1; m <= 10; m++) {
            row(all, "night(" + m + ", 0)", x.night(m, 0));
            row(all, "night(" + m + ", 1)", x.night(m, 1));
            row(all, "ask(" + m + ")", x.ask(m));
        }
    }
}
