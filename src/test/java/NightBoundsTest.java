/** Promises 19 to 25: a test for each sentence that names a bound, at it and on both sides. */
public final class NightBoundsTest {
    private static final Due due = new Due("NightBoundsTest");
    private static final int MIN = Integer.MIN_VALUE, MAX = Integer.MAX_VALUE, NONE = OneKey.NONE;
    private static final int UNKNOWN = OneKey.UNKNOWN, OUTSIDE = OneKey.OUTSIDE, NOT = OneKey.NOT;
    private static final int[] NO_MINUTES = {-1, 10, MIN, MAX};
    private static final int[] NO_DOORS = {-1, 2, 10, MIN, MAX};
    private static final int[] NO_NIGHTS = {0, -1, 11, MIN, MAX};
    private static final Twins fresh = new Twins(due, OneKey::new);
    private static final Twins busy = new Twins(due, Twins::busy);
    private static final Twins deaf = new Twins(due, () -> withHeard(8));

    public static void main(String[] args) {
        doorsHeard();
        minutesHeard();
        eightHeard();
        forgetting();
        lengthsOfNights();
        whatOfANight();
        fromTheRoomTold();
        doorsThatOpen();
        waysWithoutDoors();
        mostWays();
        heardInTheseMinutes();
        noWays();
        lengthsOfAsk();
        minutesToAsk();
        firstOfSeveral();
        askWithoutWays();
        nightsChangeNothing();
        placesToKeep();
        nothingKept();
        allAsItIs();
        keptOver();
        counts();
        firstRefusal();
        due.end();
    }

    /** Two doors, between the yard and room 1; so many are heard, in minutes 0, 1 .. */
    private static OneKey withHeard(int heard) {
        OneKey x = Due.told("plain 0 1 0;oneway 1 0 0");
        for (int i = 0; i < heard; i++) {
            due.is("heard", x.heard(i, i % 2), i + 1);
        }
        return x;
    }

    private static void doorsHeard() {
        due.says("A DOOR is HEARD in a MINUTE: how many. UNKNOWN");
        Twins some = new Twins(due, () -> withHeard(3));
        for (int door : NO_DOORS) {
            some.same("heard(0, " + door + ")", x -> x.heard(0, door), UNKNOWN);
            fresh.same("heard(9, " + door + ")", x -> x.heard(9, door), UNKNOWN);
        }
        fresh.same("heard(0, 0), there being no door", x -> x.heard(0, 0), UNKNOWN);
        due.is("the first door", withHeard(0).heard(0, 0), 1);
        due.is("the last door", withHeard(0).heard(0, 1), 1);
        due.is("the last of ten", Due.told("plain 0 1 0;".repeat(9) + "plain 0 1 0").heard(0, 9), 1);
        due.is("one behind ten", Due.told("plain 0 1 0;".repeat(9) + "plain 0 1 0").heard(0, 10), UNKNOWN);
    }

    private static void minutesHeard() {
        due.says("HEARD are DOORS in MINUTES (0 .. 9; ..)");
        for (int minute = 0; minute <= 9; minute++) {
            due.is("heard(" + minute + ", 0)", withHeard(0).heard(minute, 0), 1);
        }
        for (int minute : NO_MINUTES) {
            busy.same("heard(" + minute + ", 7)", x -> x.heard(minute, 7), OUTSIDE);
        }
    }

    private static void eightHeard() {
        due.says("HEARD are DOORS in MINUTES (..; 8 at most)");
        due.is("a seventh", withHeard(6).heard(9, 0), 7);
        due.is("an eighth", withHeard(7).heard(9, 0), 8);
        deaf.same("a ninth", x -> x.heard(9, 0), OneKey.FULL);
        deaf.same("a ninth, as told before", x -> x.heard(0, 0), OneKey.FULL);
        OneKey x = withHeard(8);
        x.forget();
        due.is("a first anew", x.heard(9, 0), 1);
    }

    private static void forgetting() {
        due.says("Nothing is HEARD: how many there were.");
        for (int heard : new int[] {0, 1, 7, 8}) {
            OneKey x = withHeard(heard);
            due.is("forget of " + heard, x.forget(), heard);
            due.is("count(7)", x.count(7), 0);
            due.is("forget of nothing", x.forget(), 0);
            due.is("all ways again", x.night(2, 0), 5);
        }
    }

    private static void lengthsOfNights() {
        due.says("A NIGHT of m MINUTES (1 .. 10)");
        long ways = 1;
        OneKey x = Due.told("plain 0 1 0");
        for (int m = 1; m <= 10; m++) {
            ways *= 2;
            due.is("night(" + m + ", 0)", x.night(m, 0), ways);
            due.is("night(" + m + ", 1)", x.night(m, 1), 3);
        }
        for (int m : NO_NIGHTS) {
            fresh.same("night(" + m + ", 0)", o -> o.night(m, 0), OUTSIDE);
            busy.same("night(" + m + ", 0)", o -> o.night(m, 0), OUTSIDE);
            busy.same("night(" + m + ", 1)", o -> o.night(m, 1), OUTSIDE);
        }
    }

    private static void whatOfANight() {
        due.says("A NIGHT: WAYS (what 0), MAY, by bits (1). OUTSIDE.");
        for (int what : new int[] {-1, 2, MIN, MAX}) {
            fresh.same("night(1, " + what + ")", x -> x.night(1, what), OUTSIDE);
            busy.same("night(10, " + what + ")", x -> x.night(10, what), OUTSIDE);
        }
        busy.same("night(11, 2)", x -> x.night(11, 2), OUTSIDE);
    }

    private static void fromTheRoomTold() {
        due.says("THE KEY is in the ROOM told for it first");
        for (int room = 0; room < 6; room++) {
            OneKey x = Due.told("gaol 6;key " + room);
            due.is("MAY of key " + room, x.night(10, 1), 1L << room);
        }
        OneKey x = Due.told("gaol 3;oneway 0 1 0;oneway 1 2 0");
        x.act(0);
        x.act(14);
        due.is("the key is elsewhere now", x.count(4), 1);
        due.is("from the room told: WAYS", x.night(1, 0), 2);
        due.is("from the room told: MAY", x.night(1, 1), 3);
        x.act(0);
        due.is("a guard has it now", x.count(4), NONE);
        due.is("from the room told again", x.night(2, 1), 7);
        told(x, "key 2");
        due.is("from another room told: WAYS", x.night(2, 0), 1);
        due.is("from another room told: MAY", x.night(2, 1), 4);
    }

    private static void doorsThatOpen() {
        due.says("goes through a DOOR that OPENS (to some GUARDS; not FALSE, ONEWAY one way)");
        String[] words = {"plain", "oneway", "two", "weighed", "sticking", "false"};
        long[] there = {3, 3, 3, 3, 3, 1};
        long[] back = {3, 2, 3, 3, 3, 2};
        for (int kind = 0; kind < words.length; kind++) {
            due.is(words[kind] + " from its first room", Due.told(words[kind] + " 0 1 0").night(1, 1), there[kind]);
            due.is(words[kind] + " from its second room", Due.told(words[kind] + " 0 1 1;key 1").night(1, 1), back[kind]);
        }
        due.is("no guard, no bread and no soap matters", Due.told("gaol 3;two 0 1 0;guard 0 2;guard 1 1").night(1, 0), 2);
    }

    private static void waysWithoutDoors() {
        due.says("in each MINUTE it stays, or goes ..");
        for (int m = 1; m <= 10; m++) {
            due.is("it stays: WAYS", new OneKey().night(m, 0), 1);
            due.is("it stays: MAY", new OneKey().night(m, 1), 1);
        }
    }

    private static void mostWays() {
        due.says("WAYS: how many there are");
        OneKey x = Due.told("plain 0 1 0;".repeat(9) + "plain 1 0 0");
        long ways = 1;
        for (int m = 1; m <= 10; m++) {
            ways *= 11;
            due.is("night(" + m + ", 0)", x.night(m, 0), ways);
        }
        due.is("more than an int holds", x.night(10, 0), 25937424601L);
        due.is("ask of so many", x.ask(10), 9);
        OneKey chain = Due.told("gaol 6;plain 0 1 0;plain 1 2 0;plain 2 3 0;plain 3 4 0;plain 4 5 0");
        long[] rooms = {3, 7, 15, 31, 63, 63, 63, 63, 63, 63};
        for (int m = 1; m <= 10; m++) {
            due.is("MAY of a row of rooms", chain.night(m, 1), rooms[m - 1]);
        }
    }

    private static void heardInTheseMinutes() {
        due.says("by all that is HEARD in these MINUTES");
        for (int minute = 0; minute <= 9; minute++) {
            OneKey x = Due.told("oneway 0 1 0");
            x.heard(minute, 0);
            for (int m = 1; m <= 10; m++) {
                due.is("WAYS of " + m + ", heard in " + minute, x.night(m, 0), m > minute ? 1 : m + 1);
                due.is("MAY of " + m + ", heard in " + minute, x.night(m, 1), m > minute ? 2 : 3);
            }
        }
    }

    private static void noWays() {
        due.says("in that MINUTE it went through that DOOR");
        OneKey x = Due.told("plain 0 1 0;plain 0 1 0;false 0 1 0;oneway 1 0 0");
        x.heard(0, 1);
        due.is("one of two doors", x.night(1, 0), 1);
        x.heard(0, 1);
        due.is("the same again", x.night(1, 0), 1);
        x.heard(0, 0);
        due.is("another one in the same minute: WAYS", x.night(1, 0), 0);
        due.is("another one in the same minute: MAY", x.night(1, 1), 0);
        due.is("for longer nights too", x.night(10, 0), 0);
        x.forget();
        x.heard(9, 2);
        due.is("through a false door", x.night(10, 0), 0);
        due.is("ahead of it", x.night(9, 1), 3);
        x.forget();
        x.heard(0, 3);
        due.is("through a oneway door the wrong way", x.night(1, 0), 0);
    }

    private static void lengthsOfAsk() {
        due.says("ASK: the MINUTE (0 .. m - 1); .. OUTSIDE.");
        for (int m : NO_NIGHTS) {
            fresh.same("ask(" + m + ")", x -> x.ask(m), OUTSIDE);
            busy.same("ask(" + m + ")", x -> x.ask(m), OUTSIDE);
        }
        due.is("ask(1)", Due.told("plain 0 1 0").ask(1), 0);
    }

    private static void minutesToAsk() {
        due.says("the MINUTE behind which (of m) to know its ROOM leaves the fewest WAYS at the most");
        // It goes in one minute of m, or never: behind minute i there are i + 1 ways in room 1, m - i in room 0.
        OneKey x = Due.told("oneway 0 1 0");
        for (int m = 1; m <= 10; m++) {
            due.is("ask(" + m + ")", x.ask(m), (m - 1) / 2);
        }
        OneKey last = Due.told("gaol 6;oneway 0 1 0;oneway 0 2 0;oneway 0 3 0;oneway 0 4 0;oneway 0 5 0");
        last.heard(9, 0);
        due.is("all is one way", last.ask(10), 0);
        last.forget();
        last.heard(0, 0);
        due.is("all is one way from the first minute on", last.ask(10), 0);
        OneKey fork = Due.told("gaol 4;plain 0 1 0;oneway 1 2 0;oneway 1 3 0");
        fork.heard(0, 0);
        due.is("it may be in four rooms behind the last minute", fork.ask(2), 1);
    }

    private static void firstOfSeveral() {
        due.says("of several the first");
        for (int m = 1; m <= 10; m++) {
            due.is("all leave one way", new OneKey().ask(m), 0);
        }
        // Minutes 4 and 5 both leave six ways at the most.
        due.is("two leave as many", Due.told("oneway 0 1 0").ask(10), 4);
        due.is("all leave as many", Due.told("plain 0 1 0").ask(10), 0);
    }

    private static void askWithoutWays() {
        due.says("NONE: there are no WAYS");
        OneKey x = Due.told("false 0 1 0");
        for (int minute = 0; minute <= 9; minute++) {
            x.forget();
            x.heard(minute, 0);
            for (int m = 1; m <= 10; m++) {
                due.is("ask(" + m + "), heard in " + minute, x.ask(m), m > minute ? NONE : 0);
            }
        }
    }

    private static void nightsChangeNothing() {
        due.says("A NIGHT ..");
        OneKey now = Twins.busy();
        for (int m : new int[] {1, 10}) {
            busy.same("night(" + m + ", 0)", x -> x.night(m, 0), now.night(m, 0));
            busy.same("night(" + m + ", 1)", x -> x.night(m, 1), now.night(m, 1));
            busy.same("ask(" + m + ")", x -> x.ask(m), now.ask(m));
        }
    }

    private static void placesToKeep() {
        due.says("is kept (k 0, 1): MINUTES. UNKNOWN: no such k.");
        for (int k : new int[] {-1, 2, MIN, MAX}) {
            fresh.same("keep(" + k + ")", x -> x.keep(k), UNKNOWN);
            busy.same("keep(" + k + ")", x -> x.keep(k), UNKNOWN);
            fresh.same("back(" + k + ")", x -> x.back(k), UNKNOWN);
            busy.same("back(" + k + ")", x -> x.back(k), UNKNOWN);
        }
        for (int k = 0; k < 2; k++) {
            OneKey x = new OneKey();
            due.is("keep(" + k + ")", x.keep(k), 0);
            x.act(0);
            due.is("keep(" + k + ") a minute later", x.keep(k), 1);
            x.act(1);
            due.is("back(" + k + ")", x.back(k), 1);
        }
    }

    private static OneKey told(OneKey x, String text) {
        x.erase();
        Due.write(x, text);
        x.gaol();
        return x;
    }

    private static void nothingKept() {
        due.says("NOT: nothing was kept since the last text.");
        for (int place = 0; place < 2; place++) {
            int k = place;
            fresh.same("back(" + k + ") at first", x -> x.back(k), NOT);
            Twins other = new Twins(due, () -> {
                OneKey x = Due.told("plain 0 1 0");
                x.act(0);
                x.keep(1 - k);
                x.act(14);
                return x;
            });
            other.same("back(" + k + "), the other one being kept", x -> x.back(k), NOT);
            new Twins(due, () -> told(Twins.busy(), "soap 1")).same("back(" + k + ") behind a text", x -> x.back(k), NOT);
            new Twins(due, () -> told(Twins.busy(), "gaol 2")).same("back(" + k + ") behind gaol", x -> x.back(k), NOT);
            due.is("back(" + k + ") behind a faulty text", told(Twins.busy(), "soap 1;soap 4").back(k), k == 0 ? 0 : 4);
        }
    }

    private static void allAsItIs() {
        due.says("All as it is (GUARDS, THE KEY, HUNGRY ones, SOAP, MINUTES) is kept");
        OneKey x = Twins.busy();
        due.is("back(0)", x.back(0), 0);
        long[] first = {6, 8, 6, 2, 0, 0, 5, 3, 9};
        for (int what = 0; what < first.length; what++) {
            due.is("behind back(0): count(" + what + ")", x.count(what), first[what]);
        }
        due.is("behind back(0): guard 0", x.guard(0, 0), 0);
        due.is("behind back(0): guard 0 has", x.guard(0, 1), 0);
        due.is("behind back(0): guard 1", x.guard(1, 0), 1);
        due.is("behind back(0): guard 1 has", x.guard(1, 1), 0);
        due.is("back(1)", x.back(1), 4);
        long[] second = {6, 8, 6, 2, NONE, 4, 5, 3, 9};
        for (int what = 0; what < second.length; what++) {
            due.is("behind back(1): count(" + what + ")", x.count(what), second[what]);
        }
        due.is("behind back(1): guard 0", x.guard(0, 0), 1);
        due.is("behind back(1): guard 0 has", x.guard(0, 1), 2);
        due.is("behind back(1): guard 1", x.guard(1, 0), 1);
        due.is("behind back(1): guard 1 has", x.guard(1, 1), 1);
        OneKey soap = Due.told("plain 0 1 0;soap 3");
        soap.act(34);
        soap.keep(1);
        soap.act(84);
        soap.act(34);
        due.is("soap is worn out", soap.count(3), 0);
        due.is("back(1)", soap.back(1), 1);
        due.is("turns as they were", soap.count(3), 2);
        due.is("guard 1 as it was", soap.guard(1, 0), 0);
    }

    private static void keptOver() {
        due.says("It is as it was kept: MINUTES.");
        OneKey x = new OneKey();
        x.keep(0);
        x.act(0);
        x.keep(1);
        x.act(1);
        due.is("back(0)", x.back(0), 0);
        due.is("back(1), which back(0) has left", x.back(1), 1);
        due.is("back(1) again", x.back(1), 1);
        due.is("keep(0) over it", x.keep(0), 1);
        x.act(1);
        due.is("back(0) then", x.back(0), 1);
        due.is("the key is held", x.count(4), NONE);
    }

    private static void counts() {
        due.says("0 ROOMS, 1 DOORS, 2 ROOMS that are HUNGRY, by bits, .. 8 bytes of THE TEXT. OUTSIDE.");
        long[] want = {6, 8, 4, 2, NONE, 6, 5, 3, 9};
        for (int what = 0; what < want.length; what++) {
            due.is("count(" + what + ")", Twins.busy().count(what), want[what]);
        }
        for (int what : new int[] {-1, 9, MIN, MAX}) {
            fresh.same("count(" + what + ")", x -> x.count(what), OUTSIDE);
            busy.same("count(" + what + ")", x -> x.count(what), OUTSIDE);
        }
        due.is("hungry, by bits: lowest and highest", Due.told("gaol 6;hungry 5;hungry 0").count(2), 33);
        due.is("hungry, by bits: four", Due.told("gaol 6;hungry 5;hungry 4;hungry 3;hungry 2").count(2), 60);
    }

    private static void firstRefusal() {
        due.says("UNKNOWN .., OUTSIDE .., NOT .., FULL: the first of these that fits");
        for (int door : NO_DOORS) {
            deaf.same("full: heard(0, " + door + ")", x -> x.heard(0, door), UNKNOWN);
            deaf.same("full: heard(10, " + door + ")", x -> x.heard(10, door), UNKNOWN);
            fresh.same("heard(-1, " + door + ")", x -> x.heard(-1, door), UNKNOWN);
        }
        for (int minute : NO_MINUTES) {
            deaf.same("full: heard(" + minute + ", 0)", x -> x.heard(minute, 0), OUTSIDE);
            deaf.same("full: heard(" + minute + ", 1)", x -> x.heard(minute, 1), OUTSIDE);
        }
        fresh.same("back(2), nothing being kept", x -> x.back(2), UNKNOWN);
    }
}
