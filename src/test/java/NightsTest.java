/** Promises 19 to 25: heard, forget, night, ask, keep, back, count. */
public final class NightsTest {
    private static final Due due = new Due("NightsTest");

    public static void main(String[] args) {
        hearing();
        nightsByKind();
        nightsByWhatIsHeard();
        nightsBegin();
        largeNights();
        asking();
        keeping();
        counting();
        due.end();
    }

    private static void hearing() {
        OneKey x = Due.told("plain 0 1 0;plain 0 1 0");
        due.is("no such door", x.heard(0, 2), OneKey.UNKNOWN);
        due.is("door -1", x.heard(0, -1), OneKey.UNKNOWN);
        due.is("minute 10", x.heard(10, 0), OneKey.OUTSIDE);
        due.is("minute -1", x.heard(-1, 0), OneKey.OUTSIDE);
        due.is("unknown ahead of outside", x.heard(10, 2), OneKey.UNKNOWN);
        due.is("forget nothing", x.forget(), 0);
        for (int i = 1; i <= 8; i++) {
            due.is("heard", x.heard(i + 1, i % 2), i);
        }
        due.is("one too many", x.heard(0, 0), OneKey.FULL);
        due.is("outside ahead of full", x.heard(10, 0), OneKey.OUTSIDE);
        due.is("unknown ahead of full", x.heard(0, 5), OneKey.UNKNOWN);
        due.is("eight", x.count(7), 8);
        due.is("forget", x.forget(), 8);
        due.is("forgotten", x.count(7), 0);
        due.is("forgotten: all ways again", x.night(3, 0), 27);
        due.is("the same door twice in a minute", x.heard(0, 0) + x.heard(0, 0), 3);
        due.is("it went through it all the same", x.night(1, 0), 1);
    }

    /** Ways of one minute and of two, and where the key may be, by the kind of the one door and its first room. */
    private static void nightsByKind() {
        String[] kinds = {"plain", "oneway", "two", "weighed", "sticking", "false"};
        long[][] want = {{2, 4, 3, 2, 4, 3}, {2, 3, 3, 1, 1, 1}, {2, 4, 3, 2, 4, 3},
            {2, 4, 3, 2, 4, 3}, {2, 4, 3, 2, 4, 3}, {1, 1, 1, 1, 1, 1}};
        for (int kind = 0; kind < kinds.length; kind++) {
            for (int turned = 0; turned < 2; turned++) {
                OneKey x = Due.told(kinds[kind] + (turned == 0 ? " 0 1 0" : " 1 0 1"));
                String what = kinds[kind] + (turned == 0 ? "" : " turned");
                due.is(what + ": a minute", x.night(1, 0), want[kind][3 * turned]);
                due.is(what + ": two minutes", x.night(2, 0), want[kind][3 * turned + 1]);
                due.is(what + ": rooms", x.night(1, 1), want[kind][3 * turned + 2]);
            }
        }
    }

    private static void nightsByWhatIsHeard() {
        OneKey x = Due.told("gaol 3;plain 0 1 0;plain 1 2 0;oneway 0 2 0");
        due.is("a minute", x.night(1, 0), 3);
        x.heard(1, 1);
        due.is("a minute ahead of what is heard", x.night(1, 0), 3);
        due.is("two minutes", x.night(2, 0), 2);
        due.is("two minutes: rooms", x.night(2, 1), 6);
        x.heard(0, 2);
        due.is("by two doors", x.night(2, 0), 1);
        due.is("by two doors: rooms", x.night(2, 1), 2);
        x.heard(0, 0);
        due.is("two doors in a minute", x.night(1, 0), 0);
        due.is("two doors in a minute: rooms", x.night(2, 1), 0);
        due.is("two doors in a minute: ask", x.ask(2), OneKey.NONE);
        due.is("m 0", x.night(0, 0), OneKey.OUTSIDE);
        due.is("m 11", x.night(11, 0), OneKey.OUTSIDE);
        due.is("what 2", x.night(1, 2), OneKey.OUTSIDE);
        due.is("what -1", x.night(1, -1), OneKey.OUTSIDE);
        x.forget();
        x.heard(9, 2);
        due.is("the last minute", x.night(10, 1), 4);
    }

    private static void nightsBegin() {
        OneKey x = Due.told("gaol 3;plain 0 1 0;plain 1 2 0;key 1;guard 0 1");
        due.is("from the room told", x.night(1, 1), 7);
        x.act(0);
        x.act(14);
        due.is("the key is in the yard", x.count(4), 0);
        due.is("still from the room told", x.night(1, 1), 7);
        due.is("a night is no minute", x.count(5), 2);
        Due.write(x, "key 2");
        x.gaol();
        due.is("from another room told", x.night(1, 1), 6);
        due.is("from another room told: ways", x.night(1, 0), 2);
    }

    private static void largeNights() {
        String door = "plain 0 1 0;two 1 0 0;weighed 0 1 0;sticking 0 1 0;plain 1 0 0";
        OneKey x = Due.told(door, door);
        due.is("eleven to the tenth", x.night(10, 0), 25937424601L);
        due.is("rooms", x.night(10, 1), 3);
        due.is("ask", x.ask(10), 9);
        due.is("ask of one", x.ask(1), 0);
        OneKey ring = Due.told("gaol 6;plain 0 1 0;plain 1 2 0;plain 2 3 0;plain 3 4 0;plain 4 5 0;plain 5 0 0;key 5");
        due.is("a ring of six: ways", ring.night(10, 0), 59049);
        due.is("a ring of six: rooms", ring.night(10, 1), 63);
        due.is("a ring of six: two minutes", ring.night(2, 1), 59);
        due.is("a ring of six: ask", ring.ask(10), 9);
    }

    private static void asking() {
        due.is("no doors: the first of equals", new OneKey().ask(10), 0);
        OneKey x = Due.told("gaol 3;plain 0 1 0;oneway 1 2 0");
        due.is("ask(0)", x.ask(0), OneKey.OUTSIDE);
        due.is("ask(11)", x.ask(11), OneKey.OUTSIDE);
        due.is("ask(-1)", x.ask(-1), OneKey.OUTSIDE);
        // Of two minutes' five ways the first leaves 3 (in 1) and 2 (in 0), the second 2, 2 and 1.
        due.is("ask(2)", x.ask(2), 1);
        x.heard(1, 1);
        // One way: through door 0, then door 1.
        due.is("ask(2), door 1 is heard", x.ask(2), 0);
        x.forget();
        x.heard(2, 1);
        // Door 1 in minute 2: 0 0 1, 0 1 1 lead there, then 2; the first minute leaves 1 way, all later ones 2.
        due.is("ask(3), door 1 is heard", x.ask(3), 0);
    }

    private static void keeping() {
        OneKey x = Due.told("plain 0 1 0;hungry 0;soap 1");
        due.is("keep(-1)", x.keep(-1), OneKey.UNKNOWN);
        due.is("keep(2)", x.keep(2), OneKey.UNKNOWN);
        due.is("back(-1)", x.back(-1), OneKey.UNKNOWN);
        due.is("back(2)", x.back(2), OneKey.UNKNOWN);
        due.is("nothing was kept", x.back(0), OneKey.NOT);
        x.act(2);
        due.is("keep(0)", x.keep(0), 1);
        due.is("nothing was kept in 1", x.back(1), OneKey.NOT);
        x.act(3);
        x.act(84);
        x.act(0);
        x.act(14);
        due.is("keep(1)", x.keep(1), 5);
        x.row(1);
        x.heard(0, 0);
        due.is("back(0)", x.back(0), 1);
        due.is("hungry again", x.count(2), 1);
        due.is("soap again", x.count(3), 1);
        due.is("key again", x.count(4), 0);
        due.is("guards again", x.room(0, 1), 3);
        due.is("bread again", x.guard(0, 1), 1);
        due.is("minutes again", x.count(5), 1);
        due.is("the row stays", x.count(6), 1);
        due.is("heard stays", x.count(7), 1);
        due.is("fewest from there", x.fewest(OneKey.NONE), 1);
        due.is("back(1)", x.back(1), 5);
        due.is("guards there", x.room(1, 1), 3);
        due.is("key there", x.count(4), 1);
        due.is("fewest from there", x.fewest(OneKey.NONE), 0);
        due.is("back(0) again", x.back(0), 1);
        due.is("keep over it", x.keep(1), 1);
        due.is("back(1) then", x.back(1), 1);
    }

    private static void counting() {
        OneKey x = Due.told("gaol 5;plain 0 1 1;plain 0 2 1;hungry 4;hungry 1;soap 3;key 0");
        Due.write(x, "key 1;");
        x.row(3);
        x.row(4);
        x.heard(0, 0);
        x.act(84);
        x.act(0);
        long[] want = {5, 2, 18, 2, OneKey.NONE, 2, 2, 1, 6};
        for (int what = 0; what < want.length; what++) {
            due.is("count(" + what + ")", x.count(what), want[what]);
        }
        due.is("count(9)", x.count(9), OneKey.OUTSIDE);
        due.is("count(-1)", x.count(-1), OneKey.OUTSIDE);
    }
}
