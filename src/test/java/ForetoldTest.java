/** Promises 11 to 15: fewest, by, worth, out, odds. */
public final class ForetoldTest {
    private static final Due due = new Due("ForetoldTest");
    private static final int NONE = OneKey.NONE;

    static final String[] TEN_STUCK = {
        "gaol 6;kitchen 5;guard 1 2;hungry 3;hungry 4;hungry 0;hungry 1",
        "oneway 2 1 0;sticking 3 1 1;sticking 5 4 0;sticking 4 5 1;false 2 4 1;plain 3 4 0;sticking 0 1 1;oneway 2 3 0",
        "sticking 3 2 0",
    };
    static final String[] ELEVEN_STUCK = {
        "gaol 6;kitchen 4;key 1;guard 0 1;guard 1 3;hungry 3;hungry 5;hungry 0;hungry 1",
        "sticking 4 5 0;weighed 5 0 1;false 4 3 1;false 1 3 0;sticking 5 1 1;two 2 0 0;sticking 3 1 0;two 1 3 0",
        "sticking 0 4 1",
    };

    public static void main(String[] args) {
        fewest();
        fewestIsTheFirst();
        hopeless();
        by();
        worth();
        out();
        odds();
        oddsOfManyDoors();
        nothingChanges();
        due.end();
    }

    private static void codes(String what, OneKey x, boolean out, int... want) {
        due.is(what + ": how many", out ? x.out(NONE) : x.fewest(NONE), want.length);
        for (int i = 0; i < want.length; i++) {
            due.is(what + ": code " + i, out ? x.out(i) : x.fewest(i), want[i]);
        }
        due.is(what + ": behind the last", out ? x.out(want.length) : x.fewest(want.length), NONE);
        due.is(what + ": far behind", out ? x.out(Integer.MAX_VALUE) : x.fewest(Integer.MAX_VALUE), NONE);
        due.is(what + ": -2", out ? x.out(-2) : x.fewest(-2), OneKey.OUTSIDE);
        due.is(what + ": MIN", out ? x.out(Integer.MIN_VALUE) : x.fewest(Integer.MIN_VALUE), OneKey.OUTSIDE);
    }

    private static void fewest() {
        codes("nobody is hungry", new OneKey(), false);
        codes("in the kitchen", Due.told("hungry 0"), false, 2, 3);
        codes("through a wicket", Due.told("false 0 1 1;hungry 1"), false, 2, 4);
        codes("together", Due.told("plain 0 1 0;hungry 1"), false, 0, 52, 24, 53);
        codes("through a kitchen behind a door", Due.told("plain 0 1 0;kitchen 1;hungry 1"), false, 0, 14, 2, 3);
        codes("with soap", Due.told("plain 0 1 0;kitchen 1;hungry 1;soap 1"), false, 2 + 32, 2, 3);
        codes("the other one's hand", Due.told("gaol 3;false 0 1 1;false 1 2 1;guard 1 1;hungry 2"), false, 2, 4, 55);
        OneKey holder = Due.told("guard 1 1;hungry 0");
        holder.act(0);
        codes("the key is hung up first", holder, false, 1, 2, 3);
        OneKey x = Due.told("plain 0 1 0;hungry 1");
        x.act(50);
        codes("from now", x, false, 2, 74, 3);
        x.act(2);
        codes("from now again", x, false, 74, 3);
    }

    private static void fewestIsTheFirst() {
        codes("the lower door", Due.told("false 0 1 1;false 0 1 1;hungry 1"), false, 2, 4);
        codes("the lower door with a wicket", Due.told("false 0 1 0;false 0 1 1;hungry 1"), false, 2, 5);
        codes("guard 0 ahead of guard 1", Due.told("kitchen 1;guard 0 1;guard 1 1;hungry 1"), false, 2, 3);
        codes("two mouths", Due.told("false 0 1 1;hungry 0;hungry 1"), false, 2, 3, 2, 4);
    }

    private static void hopeless() {
        OneKey x = Due.told("two 0 1 0;hungry 1;guard 1 1");
        due.is("hopeless", x.fewest(NONE), NONE);
        due.is("no code", x.fewest(0), NONE);
        due.is("below", x.fewest(-2), OneKey.OUTSIDE);
        due.is("by 3", x.by(3), NONE);
        due.is("worth", x.worth(0), OneKey.NOT);
        due.is("worth of no door is unknown", x.worth(1), OneKey.UNKNOWN);
        due.is("odds", x.odds(1, 1, 0), OneKey.NOT);
        due.is("odds outside ahead of not", x.odds(1, 1, 2), OneKey.OUTSIDE);
        OneKey turns = Due.told("oneway 0 1 0;hungry 0;hungry 1");
        due.is("there is hope", turns.fewest(NONE), 6);
        turns.act(0);
        turns.act(14);
        due.is("the key is behind a oneway door", turns.fewest(NONE), NONE);
    }

    private static void by() {
        OneKey x = Due.told("gaol 4;plain 0 1 0;plain 1 2 0;plain 2 3 0;kitchen 3;hungry 3;soap 1");
        long[] want = {8, 7, 6, 5};
        for (int s = 0; s < 4; s++) {
            due.is("by(" + s + ")", x.by(s), want[s]);
        }
        due.is("by(4)", x.by(4), OneKey.OUTSIDE);
        due.is("by(-1)", x.by(-1), OneKey.OUTSIDE);
        due.is("turns as before", x.count(3), 1);
        due.is("fewest as before", x.fewest(NONE), 7);
        x.act(34);
        due.is("from now", x.by(3), 4);
        due.is("from now, as it is", x.by(0), 8);
    }

    private static void worth() {
        OneKey x = Due.told("plain 0 1 0;plain 0 1 1;hungry 1", "gaol 3;plain 0 1 0;false 0 2 1;hungry 1;hungry 2");
        due.is("worth of one more", x.worth(0), 2);
        due.is("worth of one that is there", x.worth(1), 0);
        due.is("worth of no door", x.worth(2), OneKey.UNKNOWN);
        due.is("worth(-1)", x.worth(-1), OneKey.UNKNOWN);
        due.is("no wicket more", x.door(0, 3), 0);
        due.is("fewest as before", x.fewest(NONE), 6);
        x.act(2);
        due.is("from now", x.worth(0), x.fewest(NONE) - 3);
        OneKey hopeless = Due.told("false 0 1 0;hungry 1");
        due.is("hopeless, though a wicket would do", hopeless.worth(0), OneKey.NOT);
    }

    private static void out() {
        codes("they are", new OneKey(), true);
        codes("together", Due.told("plain 0 1 0;guard 0 1;guard 1 1;key 1"), true, 0, 24);
        codes("one by soap, one by key", Due.told("sticking 0 1 0;plain 0 1 0;soap 1;guard 0 1;guard 1 1;key 1"), true, 0, 25);
        codes("soap twice", Due.told("plain 0 1 0;soap 2;guard 0 1;guard 1 1"), true, 34, 84);
        codes("one is out", Due.told("plain 0 1 0;guard 1 1;key 1"), true, 50, 64);
        codes("fetched", Due.told("plain 0 1 0;guard 1 1"), true, 0, 14, 0, 24);
        OneKey never = Due.told("oneway 0 1 0;guard 1 1;key 1;soap 3");
        due.is("never", never.out(NONE), NONE);
        due.is("no code", never.out(0), NONE);
        due.is("below", never.out(-2), OneKey.OUTSIDE);
        OneKey x = Due.told("plain 0 1 0;guard 0 1;guard 1 1;key 1");
        due.is("ahead of an act", x.out(NONE), 2);
        x.act(50);
        codes("from now", x, true, 74);
    }

    private static void fraction(String what, OneKey x, int p, int e, long above, long below) {
        due.is(what + ": above by " + p + " in " + e, x.odds(p, e, 0), above);
        due.is(what + ": below by " + p + " in " + e, x.odds(p, e, 1), below);
    }

    private static void odds() {
        OneKey one = Due.told("sticking 0 1 0;kitchen 1;hungry 1");
        fraction("one door", one, 5, 0, 1, 2);
        fraction("one door", one, 5, 1, 3, 4);
        fraction("one door", one, 3, 2, 973, 1000);
        fraction("one door", one, 0, 0, 1, 1);
        fraction("one door", one, 0, 6, 1, 1);
        fraction("one door", one, 10, 0, 0, 1);
        fraction("one door", one, 10, 6, 0, 1);
        fraction("one door", one, 1, 6, 9999999, 10000000);
        OneKey two = Due.told("gaol 3;sticking 0 1 0;sticking 2 1 0;kitchen 2;hungry 2");
        fraction("two doors", two, 5, 0, 1, 4);
        fraction("two doors", two, 5, 1, 1, 2);
        fraction("two doors", two, 5, 2, 11, 16);
        fraction("two doors", two, 2, 1, 112, 125);
        OneKey none = Due.told("plain 0 1 0;sticking 0 1 0;kitchen 1;hungry 1");
        fraction("a plain door is the first", none, 10, 0, 1, 1);
        due.is("p 11", one.odds(11, 0, 0), OneKey.OUTSIDE);
        due.is("p -1", one.odds(-1, 0, 0), OneKey.OUTSIDE);
        due.is("e 7", one.odds(1, 7, 0), OneKey.OUTSIDE);
        due.is("e -1", one.odds(1, -1, 0), OneKey.OUTSIDE);
        due.is("part 2", one.odds(1, 1, 2), OneKey.OUTSIDE);
        due.is("part -1", one.odds(1, 1, -1), OneKey.OUTSIDE);
        one.act(0);
        fraction("ahead of the door", one, 5, 0, 1, 2);
        one.act(14);
        fraction("behind the door", one, 5, 0, 1, 1);
    }

    private static void oddsOfManyDoors() {
        OneKey ten = Due.told(TEN_STUCK);
        due.is("ten: fewest", ten.fewest(NONE), 46);
        fraction("ten", ten, 5, 6, 14893, 65536);
        fraction("ten", ten, 5, 0, 1, 1024);
        fraction("ten", ten, 10, 6, 0, 1);
        fraction("ten", ten, 9, 0, 1, 10000000000L);
        OneKey eleven = Due.told(ELEVEN_STUCK);
        due.is("eleven: fewest", eleven.fewest(NONE), 38);
        due.is("eleven", eleven.odds(0, 0, 0), OneKey.NOT);
        due.is("eleven, part 1", eleven.odds(5, 6, 1), OneKey.NOT);
        due.is("eleven, outside", eleven.odds(5, 7, 1), OneKey.OUTSIDE);
    }

    private static void nothingChanges() {
        OneKey x = Due.told(TEN_STUCK);
        x.keep(1);
        x.row(0);
        long before = picture(x);
        x.fewest(3);
        x.by(3);
        x.worth(4);
        x.out(0);
        x.odds(3, 3, 0);
        x.judge();
        due.is("all is as it was", picture(x), before);
        due.is("and so is fewest", x.fewest(NONE), 46);
    }

    private static long picture(OneKey x) {
        long sum = 0;
        for (int what = 0; what < 9; what++) {
            sum = sum * 31 + x.count(what);
        }
        for (int guard = 0; guard < 2; guard++) {
            for (int what = 0; what < 3; what++) {
                sum = sum * 31 + x.guard(guard, what);
            }
        }
        for (int door = 0; door < 10; door++) {
            sum = sum * 31 + x.door(door, 3);
        }
        return sum;
    }
}
