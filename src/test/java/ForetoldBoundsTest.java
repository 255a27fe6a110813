import java.math.BigInteger;

/** Promises 11 to 15: a test for each sentence that names a bound, at it and on both sides. */
public final class ForetoldBoundsTest {
    private static final Due due = new Due("ForetoldBoundsTest");
    private static final int MIN = Integer.MIN_VALUE, MAX = Integer.MAX_VALUE, NONE = OneKey.NONE;
    private static final int UNKNOWN = OneKey.UNKNOWN, OUTSIDE = OneKey.OUTSIDE, NOT = OneKey.NOT;
    private static final Twins fresh = new Twins(due, OneKey::new);
    private static final Twins busy = new Twins(due, Twins::busy);
    /** The hungry one is behind a door for two, and the guards are apart. */
    private static final Twins hopeless = new Twins(due, () -> Due.told("two 0 1 0;false 0 1 0;hungry 1;guard 1 1"));

    public static void main(String[] args) {
        numbersOfFewest();
        nobodyHungry();
        hopelessStandings();
        firstOfSeveral();
        fromNow();
        turnsOfBy();
        byCanBeHopeless();
        doorsOfWorth();
        worthOfWickets();
        worthWhereHopeless();
        numbersOfOut();
        neverOut();
        tenthsOfOdds();
        minutesOfOdds();
        partsOfOdds();
        oddsWhereHopeless();
        tenSticking();
        lowestTerms();
        nothingChanges();
        firstRefusal();
        due.end();
    }

    private static void codes(String what, OneKey x, int... want) {
        due.is(what + ": fewest(-1)", x.fewest(-1), want.length);
        for (int i = 0; i < want.length; i++) {
            due.is(what + ": fewest(" + i + ")", x.fewest(i), want[i]);
        }
        due.is(what + ": fewest behind the last", x.fewest(want.length), NONE);
        due.is(what + ": fewest(-2)", x.fewest(-2), OUTSIDE);
    }

    private static void numbersOfFewest() {
        due.says("FEWEST: how many (i NONE; ..), the i-th CODE; NONE: there are not so many. OUTSIDE: i below NONE.");
        codes("four", Due.told("plain 0 1 0;hungry 1"), 0, 52, 24, 53);
        OneKey long46 = Due.told(ForetoldTest.TEN_STUCK);
        due.is("46: fewest(-1)", long46.fewest(-1), 46);
        due.holds("46: the last is a code", long46.fewest(45) >= 0 && long46.fewest(45) < 100);
        due.is("46: fewest(46)", long46.fewest(46), NONE);
        due.is("46: fewest(47)", long46.fewest(47), NONE);
        due.is("46: fewest(MAX)", long46.fewest(MAX), NONE);
        for (int i : new int[] {-2, -3, -50, MIN}) {
            fresh.same("fewest(" + i + ")", x -> x.fewest(i), OUTSIDE);
            busy.same("fewest(" + i + ")", x -> x.fewest(i), OUTSIDE);
            hopeless.same("fewest(" + i + ")", x -> x.fewest(i), OUTSIDE);
        }
    }

    private static void nobodyHungry() {
        due.says("the fewest ACTS by which no ROOM is HUNGRY");
        codes("none at first", new OneKey());
        codes("none, whatever is told", Due.told("gaol 6;false 0 5 1;guard 1 5;soap 3"));
        OneKey x = Due.told("hungry 0");
        codes("two acts", x, 2, 3);
        x.act(2);
        codes("one act", x, 3);
        x.act(3);
        codes("no act", x);
        codes("four hungry", Due.told("gaol 6;false 0 1 1;false 0 2 1;false 0 3 1;hungry 0;hungry 1;hungry 2;hungry 3"),
            2, 3, 2, 4, 2, 5, 2, 6);
    }

    private static void hopelessStandings() {
        due.says("none: HOPELESS");
        OneKey x = Due.told("two 0 1 0;hungry 1;guard 1 1");
        due.is("fewest(-1)", x.fewest(-1), NONE);
        due.is("fewest(0)", x.fewest(0), NONE);
        due.is("fewest(MAX)", x.fewest(MAX), NONE);
        due.is("no door", Due.told("hungry 1").fewest(-1), NONE);
        due.is("a false door", Due.told("false 0 1 0;hungry 1").fewest(-1), NONE);
        due.is("a kitchen that is not reached", Due.told("kitchen 1;hungry 0").fewest(-1), NONE);
        due.is("one of two is not reached", Due.told("hungry 0;hungry 1").fewest(-1), NONE);
        OneKey lost = Due.told("oneway 0 1 0;hungry 0;hungry 1");
        due.is("there is hope", lost.fewest(-1), 6);
        lost.act(0);
        lost.act(14);
        due.is("there was hope", lost.fewest(-1), NONE);
    }

    private static void firstOfSeveral() {
        due.says("of several rows of ACTS the first (by the first CODE, then the second, ..)");
        codes("by the first code", Due.told("hungry 0"), 2, 3);
        codes("by the second code", Due.told("false 0 1 1;false 0 1 1;hungry 1"), 2, 4);
        codes("by the third code", Due.told("plain 0 1 0;plain 0 1 0;kitchen 1;hungry 1"), 0, 14, 2, 3);
        codes("by the first code, though the second is higher",
            Due.told("gaol 3;plain 0 1 0;hungry 1;hungry 0"), 0, 52, 53, 52, 24, 53);
        codes("guard 1 where guard 0 can not", Due.told("guard 0 1;hungry 0"), 52, 53);
    }

    private static void fromNow() {
        due.says("FORETOLD from now (nothing changes)");
        OneKey x = Due.told("plain 0 1 0;hungry 1");
        x.keep(0);
        codes("at first", x, 0, 52, 24, 53);
        x.act(50);
        codes("behind an act", x, 2, 74, 3);
        x.back(0);
        codes("back", x, 0, 52, 24, 53);
        Due.write(x, "kitchen 1;soap 1");
        x.gaol();
        codes("behind a text", x, 34, 2, 3);
        x.act(34);
        x.act(2);
        codes("at last", x, 3);
        OneKey holder = Due.told("hungry 0;guard 1 1");
        holder.act(0);
        codes("the key is to be hung first", holder, 1, 2, 3);
    }

    private static void turnsOfBy() {
        due.says("BY: how many, if SOAP had s TURNS (0 .. 3). .. OUTSIDE");
        for (int turns = 0; turns <= 3; turns++) {
            OneKey x = Due.told("gaol 5;plain 0 1 0;plain 1 2 0;plain 2 3 0;plain 3 4 0;kitchen 4;hungry 4;soap " + turns);
            for (int s = 0; s <= 3; s++) {
                due.is("by(" + s + ") of " + turns, x.by(s), 10 - s);
            }
            due.is("fewest", x.fewest(-1), 10 - turns);
            due.is("turns as before", x.count(3), turns);
        }
        for (int s : new int[] {-1, 4, MIN, MAX}) {
            fresh.same("by(" + s + ")", x -> x.by(s), OUTSIDE);
            busy.same("by(" + s + ")", x -> x.by(s), OUTSIDE);
            hopeless.same("by(" + s + ")", x -> x.by(s), OUTSIDE);
        }
    }

    private static void byCanBeHopeless() {
        due.says("BY s TURNS; NONE.");
        for (int turns = 0; turns <= 3; turns++) {
            OneKey x = Due.told("gaol 3;plain 0 1 0;plain 1 2 0;kitchen 2;hungry 2;key 2;soap " + turns);
            long[] want = {NONE, NONE, 4, 4};
            for (int s = 0; s <= 3; s++) {
                due.is("by(" + s + ") of " + turns, x.by(s), want[s]);
            }
        }
        for (int s = 0; s <= 3; s++) {
            due.is("nobody hungry: by(" + s + ")", new OneKey().by(s), 0);
        }
    }

    private static void doorsOfWorth() {
        due.says("WORTH. UNKNOWN");
        for (int door : new int[] {-1, 8, 10, MIN, MAX}) {
            fresh.same("worth(" + door + ")", x -> x.worth(door), UNKNOWN);
            busy.same("worth(" + door + ")", x -> x.worth(door), UNKNOWN);
            hopeless.same("worth(" + door + ")", x -> x.worth(door), UNKNOWN);
        }
        due.is("the last door", Twins.busy().worth(7), 0);
        due.is("the first door", Twins.busy().worth(0), 0);
    }

    private static void worthOfWickets() {
        due.says("WORTH of a WICKET: by how many ACTS fewer, if a DOOR had one");
        OneKey x = Due.told("gaol 3;plain 0 1 0;plain 0 2 0;false 0 2 1;false 0 1 0;hungry 1");
        due.is("fewest", x.fewest(-1), 4);
        due.is("a wicket of use", x.worth(0), 2);
        due.is("a wicket of no use", x.worth(1), 0);
        due.is("a wicket that is there", x.worth(2), 0);
        due.is("a wicket in a false door", x.worth(3), 2);
        due.is("no wicket is there", x.door(0, 3) + x.door(1, 3) + x.door(3, 3), 0);
        due.is("fewest as before", x.fewest(-1), 4);
        due.is("nobody hungry", Due.told("plain 0 1 0").worth(0), 0);
    }

    private static void worthWhereHopeless() {
        due.says("NOT: HOPELESS as it is.");
        hopeless.same("worth(0)", x -> x.worth(0), NOT);
        hopeless.same("worth(1)", x -> x.worth(1), NOT);
        Twins wicket = new Twins(due, () -> Due.told("false 0 1 0;hungry 1;soap 3"));
        wicket.same("a wicket would give hope", x -> x.worth(0), NOT);
        due.is("with a kitchen in the cell there is hope", Due.told("two 0 1 0;hungry 1;guard 1 1;kitchen 1").worth(0), 0);
    }

    private static void out(String what, OneKey x, int... want) {
        due.is(what + ": out(-1)", x.out(-1), want.length);
        for (int i = 0; i < want.length; i++) {
            due.is(what + ": out(" + i + ")", x.out(i), want[i]);
        }
        due.is(what + ": out behind the last", x.out(want.length), NONE);
        due.is(what + ": out(MAX)", x.out(MAX), NONE);
        due.is(what + ": out(-2)", x.out(-2), OUTSIDE);
    }

    private static void numbersOfOut() {
        due.says("OUT: how many (i NONE; NONE: never), the i-th CODE; NONE. OUTSIDE.");
        out("they are out", new OneKey());
        out("one is out", Due.told("plain 0 1 0;guard 1 1;key 1"), 50, 64);
        out("none is out", Due.told("plain 0 1 0;guard 0 1;guard 1 1;key 1"), 0, 24);
        out("by soap", Due.told("gaol 6;plain 0 5 0;guard 0 5;soap 1"), 34);
        out("the first of several", Due.told("plain 0 1 0;plain 0 1 0;guard 0 1;guard 1 1;soap 2"), 34, 84);
        OneKey x = Due.told("plain 0 1 0;guard 0 1;guard 1 1;key 1");
        x.act(50);
        out("from now", x, 74);
        x.act(74);
        out("out then", x);
        for (int i : new int[] {-2, -3, MIN}) {
            fresh.same("out(" + i + ")", o -> o.out(i), OUTSIDE);
            busy.same("out(" + i + ")", o -> o.out(i), OUTSIDE);
            hopeless.same("out(" + i + ")", o -> o.out(i), OUTSIDE);
        }
    }

    private static void neverOut() {
        due.says("the fewest ACTS by which both GUARDS are in ROOM 0 .. NONE: never");
        OneKey x = Due.told("oneway 0 1 0;guard 1 1;key 1;soap 3");
        due.is("out(-1)", x.out(-1), NONE);
        due.is("out(0)", x.out(0), NONE);
        due.is("out(MAX)", x.out(MAX), NONE);
        due.is("out(-2)", x.out(-2), OUTSIDE);
        due.is("guard 0 alone", Due.told("oneway 0 1 0;guard 0 1;key 1;soap 3").out(-1), NONE);
        due.is("hunger does not matter", Due.told("hungry 1").out(-1), 0);
    }

    private static OneKey oneSticking() {
        return Due.told("sticking 0 1 0;kitchen 1;hungry 1");
    }

    /** The odds that so many doors take so many minutes more at most, minute by minute. */
    private static BigInteger[] oddsOf(int doors, int p, int e) {
        BigInteger[] exactly = new BigInteger[e + 1];
        for (int minutes = 0; minutes <= e; minutes++) {
            exactly[minutes] = minutes == 0 ? BigInteger.ONE : BigInteger.ZERO;
        }
        BigInteger ten = BigInteger.TEN;
        for (int door = 0; door < doors; door++) {
            BigInteger[] next = new BigInteger[e + 1];
            for (int minutes = 0; minutes <= e; minutes++) {
                next[minutes] = BigInteger.ZERO;
                for (int here = 0; here <= minutes; here++) {
                    BigInteger stuck = BigInteger.valueOf(p).pow(here).multiply(ten.pow(e - here));
                    BigInteger opens = stuck.multiply(BigInteger.valueOf(10 - p));
                    next[minutes] = next[minutes].add(exactly[minutes - here].multiply(opens));
                }
            }
            exactly = next;
        }
        BigInteger above = BigInteger.ZERO;
        for (BigInteger odds : exactly) {
            above = above.add(odds);
        }
        BigInteger below = ten.pow(doors * (e + 1));
        BigInteger common = above.gcd(below);
        return new BigInteger[] {above.divide(common), below.divide(common)};
    }

    private static void allOdds(String what, int doors, OneKey x) {
        for (int p = 0; p <= 10; p++) {
            for (int e = 0; e <= 6; e++) {
                BigInteger[] want = oddsOf(doors, p, e);
                due.is(what + ": odds(" + p + ", " + e + ", 0)", x.odds(p, e, 0), want[0].longValueExact());
                due.is(what + ": odds(" + p + ", " + e + ", 1)", x.odds(p, e, 1), want[1].longValueExact());
            }
        }
    }

    private static void tenthsOfOdds() {
        due.says("sticks by p tenths (0 .. 10) each time it is tried");
        due.is("never sticks: above", oneSticking().odds(0, 0, 0), 1);
        due.is("never sticks: below", oneSticking().odds(0, 0, 1), 1);
        due.is("by one tenth: above", oneSticking().odds(1, 0, 0), 9);
        due.is("by one tenth: below", oneSticking().odds(1, 0, 1), 10);
        due.is("by nine tenths: above", oneSticking().odds(9, 0, 0), 1);
        due.is("by nine tenths: below", oneSticking().odds(9, 0, 1), 10);
        due.is("always sticks: above", oneSticking().odds(10, 6, 0), 0);
        due.is("always sticks: below", oneSticking().odds(10, 6, 1), 1);
        for (int p : new int[] {-1, 11, MIN, MAX}) {
            fresh.same("odds(" + p + ", 0, 0)", x -> x.odds(p, 0, 0), OUTSIDE);
            busy.same("odds(" + p + ", 6, 1)", x -> x.odds(p, 6, 1), OUTSIDE);
        }
    }

    private static void minutesOfOdds() {
        due.says("that it takes e MINUTES (0 .. 6) more at most");
        long[] above = {1, 3, 7, 15, 31, 63, 127};
        for (int e = 0; e <= 6; e++) {
            due.is("above in " + e, oneSticking().odds(5, e, 0), above[e]);
            due.is("below in " + e, oneSticking().odds(5, e, 1), 2L << e);
        }
        for (int e : new int[] {-1, 7, MIN, MAX}) {
            fresh.same("odds(0, " + e + ", 0)", x -> x.odds(0, e, 0), OUTSIDE);
            busy.same("odds(10, " + e + ", 1)", x -> x.odds(10, e, 1), OUTSIDE);
        }
    }

    private static void partsOfOdds() {
        due.says("above (part 0), below (1)");
        for (int part : new int[] {-1, 2, MIN, MAX}) {
            fresh.same("odds(0, 0, " + part + ")", x -> x.odds(0, 0, part), OUTSIDE);
            busy.same("odds(10, 6, " + part + ")", x -> x.odds(10, 6, part), OUTSIDE);
        }
    }

    private static void oddsWhereHopeless() {
        due.says("NOT: HOPELESS, ..");
        hopeless.same("odds(0, 0, 0)", x -> x.odds(0, 0, 0), NOT);
        hopeless.same("odds(10, 6, 1)", x -> x.odds(10, 6, 1), NOT);
        OneKey x = oneSticking();
        x.act(0);
        due.is("ahead of the door", x.odds(10, 0, 0), 0);
        x.act(14);
        due.is("behind the door", x.odds(10, 0, 0), 1);
        due.is("behind the door: below", x.odds(10, 0, 1), 1);
    }

    private static void tenSticking() {
        due.says("or more than 10 STICKING DOORS are gone through");
        allOdds("none", 0, Due.told("plain 0 1 0;sticking 0 1 0;kitchen 1;hungry 1"));
        allOdds("nobody hungry", 0, Due.told("sticking 0 1 0"));
        allOdds("one", 1, oneSticking());
        allOdds("two", 2, Due.told("gaol 3;sticking 0 1 0;sticking 2 1 0;kitchen 2;hungry 2"));
        allOdds("ten", 10, Due.told(ForetoldTest.TEN_STUCK));
        Twins eleven = new Twins(due, () -> Due.told(ForetoldTest.ELEVEN_STUCK));
        due.is("eleven: fewest", Due.told(ForetoldTest.ELEVEN_STUCK).fewest(-1), 38);
        eleven.same("eleven: odds(0, 0, 0)", x -> x.odds(0, 0, 0), NOT);
        eleven.same("eleven: odds(5, 6, 1)", x -> x.odds(5, 6, 1), NOT);
        due.is("ten are gone through", passages(Due.told(ForetoldTest.TEN_STUCK)), 10);
        due.is("eleven are gone through", passages(Due.told(ForetoldTest.ELEVEN_STUCK)), 11);
    }

    private static int passages(OneKey x) {
        int sticking = 0;
        for (int i = 0; i < x.fewest(-1); i++) {
            int door = x.fewest(i) % 50 - 14;
            if (door >= 0 && door < 10 && x.door(door, 2) == 4) {
                sticking++;
            }
        }
        return sticking;
    }

    private static void lowestTerms() {
        due.says("Parts are told in lowest terms");
        OneKey two = Due.told("gaol 3;sticking 0 1 0;sticking 2 1 0;kitchen 2;hungry 2");
        due.is("4 of 16: above", two.odds(5, 0, 0), 1);
        due.is("4 of 16: below", two.odds(5, 0, 1), 4);
        due.is("64 of 100: above", two.odds(2, 0, 0), 16);
        due.is("64 of 100: below", two.odds(2, 0, 1), 25);
        due.is("nought: above", two.odds(10, 3, 0), 0);
        due.is("nought: below", two.odds(10, 3, 1), 1);
        due.is("one: above", two.odds(0, 3, 0), 1);
        due.is("one: below", two.odds(0, 3, 1), 1);
        due.is("of ten doors: below", Due.told(ForetoldTest.TEN_STUCK).odds(9, 0, 1), 10000000000L);
    }

    private static void nothingChanges() {
        due.says("FORETOLD from now (nothing changes)");
        OneKey now = Twins.busy();
        busy.same("fewest(-1)", x -> x.fewest(-1), now.fewest(-1));
        busy.same("fewest(0)", x -> x.fewest(0), now.fewest(0));
        busy.same("out(0)", x -> x.out(0), now.out(0));
        for (int s = 0; s <= 3; s++) {
            int turns = s;
            busy.same("by(" + s + ")", x -> x.by(turns), now.by(turns));
        }
        for (int d = 0; d < 8; d++) {
            int door = d;
            busy.same("worth(" + d + ")", x -> x.worth(door), now.worth(door));
        }
        busy.same("odds(3, 3, 0)", x -> x.odds(3, 3, 0), 1);
    }

    private static void firstRefusal() {
        due.says("UNKNOWN .., OUTSIDE .., NOT .., FULL: the first of these that fits");
        hopeless.same("worth(2)", x -> x.worth(2), UNKNOWN);
        hopeless.same("odds(11, 0, 0)", x -> x.odds(11, 0, 0), OUTSIDE);
        hopeless.same("odds(-1, 0, 0)", x -> x.odds(-1, 0, 0), OUTSIDE);
        hopeless.same("odds(0, 7, 0)", x -> x.odds(0, 7, 0), OUTSIDE);
        hopeless.same("odds(0, 0, 2)", x -> x.odds(0, 0, 2), OUTSIDE);
        due.is("more than ten and part 2", Due.told(ForetoldTest.ELEVEN_STUCK).odds(5, 0, 2), OUTSIDE);
    }
}
