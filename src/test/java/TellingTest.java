/** Promises 1 to 8: a new object, write, erase, fault, gaol, room, door, as. */
public final class TellingTest {
    private static final Due due = new Due("TellingTest");

    public static void main(String[] args) {
        newObject();
        writing();
        erasing();
        faultsOfWords();
        faultsOfNumbers();
        faultsOfEnds();
        faultsByLinesAhead();
        blanksAndTokens();
        doing();
        doingResets();
        rooms();
        doors();
        kindsOverOneAnother();
        due.end();
    }

    private static void newObject() {
        OneKey x = new OneKey();
        long[] counts = {2, 0, 0, 0, 0, 0, 0, 0, 0};
        for (int what = 0; what < counts.length; what++) {
            due.is("new: count(" + what + ")", x.count(what), counts[what]);
        }
        due.is("new: room(0, 1)", x.room(0, 1), 3);
        due.is("new: room(0, 2)", x.room(0, 2), 1);
        due.is("new: room(0, 3)", x.room(0, 3), 1);
        due.is("new: room(1, 1)", x.room(1, 1), 0);
        due.is("new: guard(0, 1)", x.guard(0, 1), 0);
        due.is("new: guard(1, 1)", x.guard(1, 1), 0);
        due.is("new: back(0)", x.back(0), OneKey.NOT);
        due.is("new: judge()", x.judge(), OneKey.NONE);
        due.is("new: burn()", x.burn(), 0);
        due.is("new: forget()", x.forget(), 0);
    }

    private static void writing() {
        OneKey x = new OneKey();
        due.is("write n 0", x.write(97, 0), OneKey.OUTSIDE);
        due.is("write n 9", x.write(97, 9), OneKey.OUTSIDE);
        due.is("write n -1", x.write(97, -1), OneKey.OUTSIDE);
        due.is("write n MIN", x.write(97, Integer.MIN_VALUE), OneKey.OUTSIDE);
        due.is("nothing written", x.count(8), 0);
        for (int i = 1; i <= 24; i++) {
            due.is("write 8 bytes", x.write(-1L, 8), 8 * i);
        }
        due.is("write 192 + 7", x.write(-1L, 7), 199);
        due.is("write 199 + 2", x.write(-1L, 2), OneKey.FULL);
        due.is("write 199 + 9: outside ahead of full", x.write(-1L, 9), OneKey.OUTSIDE);
        due.is("199 are there", x.count(8), 199);
        due.is("write 199 + 1", x.write(-1L, 1), 200);
        due.is("write 200 + 1", x.write(-1L, 1), OneKey.FULL);
        due.is("200 are there", x.count(8), 200);
        OneKey high = new OneKey();
        high.write(Due.bytes("soap 2", 0, 6) | 0xFFFFL << 48, 6);
        due.is("bytes from the n-th on do not count", high.fault(), OneKey.NONE);
        high.write(0xFF, 1);
        due.is("byte 255 stands nowhere", high.fault(), 6);
    }

    private static void erasing() {
        OneKey x = new OneKey();
        due.is("erase nothing", x.erase(), 0);
        Due.write(x, "plain 0 1 0");
        due.is("erase", x.erase(), 11);
        due.is("erased", x.count(8), 0);
        due.is("erased text is too short", x.fault(), 0);
        due.is("erased text is not done", x.gaol(), OneKey.NOT);
        due.is("no door", x.count(1), 0);
        Due.write(x, "soap 3");
        due.is("written anew", x.fault(), OneKey.NONE);
    }

    private static void faultsOfWords() {
        due.is("bribe", Due.fault("bribe 1"), 0);
        due.is("a longer word", Due.fault("keys 0"), 0);
        due.is("a shorter word", Due.fault("ke 0"), 0);
        due.is("capitals", Due.fault("Key 0"), 0);
        due.is("a capital within", Due.fault("kEy 0"), 0);
        due.is("another first letter", Due.fault("bey 0"), 0);
        due.is("z is a letter of its row", Due.fault("keyz 0"), 0);
        due.is("a is a letter of its row", Due.fault("keya 0"), 0);
        due.is("a number for a word", Due.fault("3 key 0"), 0);
        due.is("an empty line ahead", Due.fault(";key 0"), 0);
        due.is("an empty line between", Due.fault("key 0;;key 0"), 6);
        due.is("words of a line run into one", Due.fault("soap1key 0"), 5);
        due.is("a word for ;", Due.fault("soap 1 key 0"), 7);
        due.is("a point for ;", Due.fault("soap 1.key 0"), 6);
        due.is("byte 0 for a word", Due.fault("\0"), 0);
        due.is("words two at a time", Due.fault("plain plain 0 1 0"), 6);
        for (String word : new String[] {"plain", "oneway", "two", "weighed", "sticking", "false"}) {
            due.is(word, Due.fault(word + " 0 1 0"), OneKey.NONE);
        }
        String nine = "plain 0 1 0;two 0 1 0;false 0 1 0;two 0 1 0;two 1 0 0;two 1 0 0;two 1 0 1;two 0 1 0;two 0 1 0";
        due.is("a tenth door", Due.fault("key 1; oneway 0 1 0", nine), OneKey.NONE);
        due.is("an eleventh door, at its word", Due.fault("two 0 1 1;key 1; oneway 0 1 0", nine), 17);
        due.is("an eleventh door behind gaol", Due.fault("two 0 1 1;gaol 2;oneway 0 1 0", nine), OneKey.NONE);
    }

    private static void faultsOfNumbers() {
        due.is("gaol 1", Due.fault("gaol 1"), 5);
        due.is("gaol 2", Due.fault("gaol 2"), OneKey.NONE);
        due.is("gaol 6", Due.fault("gaol 6"), OneKey.NONE);
        due.is("gaol 7", Due.fault("gaol 7"), 5);
        due.is("gaol 06", Due.fault("gaol 06"), OneKey.NONE);
        due.is("gaol 006", Due.fault("gaol 006"), 5);
        due.is("gaol 12", Due.fault("gaol 12"), 5);
        due.is("gaol -3", Due.fault("gaol -3"), 5);
        due.is("gaol x", Due.fault("gaol x"), 5);
        due.is("A out of bounds", Due.fault("plain 2 0 0"), 6);
        due.is("B out of bounds", Due.fault("plain 0 2 0"), 8);
        due.is("B is A", Due.fault("plain 1 1 0"), 8);
        due.is("B is A, told as 01", Due.fault("plain 1 01 0"), 8);
        due.is("W out of bounds", Due.fault("plain 0 1 2"), 10);
        due.is("W of three digits", Due.fault("plain 0 1 001"), 10);
        due.is("a fourth number", Due.fault("plain 0 1 1 1"), 12);
        due.is("kitchen", Due.fault("kitchen 2"), 8);
        due.is("hungry", Due.fault("hungry 2"), 7);
        due.is("soap 3", Due.fault("soap 3"), OneKey.NONE);
        due.is("soap 4", Due.fault("soap 4"), 5);
        due.is("soap 99", Due.fault("soap 99"), 5);
        due.is("soap 19", Due.fault("soap 19"), 5);
        due.is("key", Due.fault("key 2"), 4);
        due.is("guard G", Due.fault("guard 2 0"), 6);
        due.is("guard R", Due.fault("guard 1 2"), 8);
        due.is("hungry told in this text", Due.fault("hungry 1;hungry 01"), 16);
        due.is("hungry told in a text ahead", Due.fault("hungry 1", "hungry 1"), 7);
        due.is("four hungry", Due.fault("hungry 3", "gaol 5;hungry 0;hungry 1;hungry 2"), OneKey.NONE);
        due.is("a fifth", Due.fault("hungry 4", "gaol 5;hungry 0;hungry 1;hungry 2;hungry 3"), 7);
        OneKey x = Due.told("hungry 0");
        x.act(2);
        x.act(3);
        Due.write(x, "hungry 0");
        due.is("hungry and fed is told all the same", x.fault(), 7);
    }

    private static void faultsOfEnds() {
        due.is("empty", Due.fault(""), 0);
        due.is("blanks alone", Due.fault("   "), 3);
        due.is("word alone", Due.fault("gaol"), 4);
        due.is("word and blanks", Due.fault("gaol  "), 6);
        due.is("door without B", Due.fault("plain 0"), 7);
        due.is("door without W", Due.fault("plain 0 1"), 9);
        due.is("; for W", Due.fault("plain 0 1;key 1"), 9);
        due.is("; at the end", Due.fault("key 1;"), 6);
        due.is("; and a blank at the end", Due.fault("key 1; "), 7);
        due.is("200 letters", Due.fault("k".repeat(200)), 0);
        due.is("200 digits", Due.fault("key " + "1".repeat(196)), 4);
        due.is("200 bytes, no number", Due.fault(" ".repeat(196) + "gaol"), 200);
        due.is("200 bytes, no word", Due.fault(" ".repeat(194) + "key 1;"), 200);
        due.is("200 bytes", Due.fault(" ".repeat(195) + "key 1"), OneKey.NONE);
        String ten = "soap 1;".repeat(9) + "soap 1";
        due.is("ten lines", Due.fault(ten), OneKey.NONE);
        due.is("the ; of an eleventh", Due.fault(ten + ";soap 1"), 69);
        due.is("the ; behind ten", Due.fault(ten + ";"), 69);
        due.is("the ; of an eleventh behind a blank", Due.fault(ten + " ;x"), 70);
        due.is("a fault ahead of an eleventh line", Due.fault("soap 4;" + ten + ";soap 1"), 5);
    }

    private static void faultsByLinesAhead() {
        due.is("rooms by a line ahead", Due.fault("gaol 5;key 4"), OneKey.NONE);
        due.is("rooms by a line behind", Due.fault("key 4;gaol 5"), 4);
        due.is("rooms by a text ahead", Due.fault("key 4", "gaol 5"), OneKey.NONE);
        due.is("rooms become fewer", Due.fault("gaol 3;key 4", "gaol 5"), 11);
        due.is("hungry ones end with gaol", Due.fault("hungry 1;gaol 2;hungry 1", "hungry 0"), OneKey.NONE);
        OneKey twice = new OneKey();
        Due.write(twice, "hungry 1;plain 0 1 0");
        due.is("read", twice.fault(), OneKey.NONE);
        due.is("read again", twice.fault(), OneKey.NONE);
        due.is("nothing is told by that", twice.count(1), 0);
        due.is("done", twice.gaol(), 2);
        due.is("a door", twice.count(1), 1);
        OneKey x = new OneKey();
        Due.write(x, "gaol 6;hungry 5;bad");
        due.is("fault", x.fault(), 16);
        due.is("fault again: nothing changed", x.fault(), 16);
        due.is("not done", x.gaol(), OneKey.NOT);
        due.is("rooms as before", x.count(0), 2);
        due.is("hungry as before", x.count(2), 0);
        due.is("text as before", x.count(8), 19);
    }

    private static void blanksAndTokens() {
        due.is("no blank between", Due.fault("plain0 1 1;soap3;guard1 1"), OneKey.NONE);
        due.is("many blanks", Due.fault("  plain   0  1   1  ;  soap 3 ; key   0 "), OneKey.NONE);
        due.is("digits run into one", Due.fault("plain 01 0"), 10);
        due.is("digits run into one: 10 is no room", Due.fault("guard 10"), 6);
        due.is("a tab is no blank", Due.fault("key\t0"), 3);
        due.is("a line's end is no blank", Due.fault("key 0\n"), 5);
    }

    private static void doing() {
        OneKey x = new OneKey();
        Due.write(x, "gaol 4;oneway 3 2 1;two 0 1 0;kitchen 3;hungry 2;hungry 0;soap 2;key 1;guard 1 3;guard 0 2");
        due.is("lines done", x.gaol(), 10);
        due.is("text is empty", x.count(8), 0);
        due.is("rooms", x.count(0), 4);
        due.is("doors", x.count(1), 2);
        due.is("hungry", x.count(2), 5);
        due.is("turns", x.count(3), 2);
        due.is("key", x.count(4), 1);
        due.is("guard 0", x.guard(0, 0), 2);
        due.is("guard 1", x.guard(1, 0), 3);
        due.is("kitchen", x.room(3, 3), 1);
        due.is("kitchen no more", x.room(0, 3), 0);
        Due.write(x, "guard 0 1;weighed 1 0 1");
        due.is("more is told", x.gaol(), 2);
        due.is("a door more", x.count(1), 3);
        due.is("guard 0 elsewhere", x.guard(0, 0), 1);
        due.is("guard 1 as told ahead", x.guard(1, 0), 3);
        due.is("an empty text", x.gaol(), OneKey.NOT);
        Due.write(x, "kitchen 1;kitchen 2");
        due.is("told twice", x.gaol(), 2);
        due.is("the later one holds", x.room(2, 3), 1);
        Due.write(x, "gaol 3");
        due.is("gaol alone", x.gaol(), 1);
        long[] counts = {3, 0, 0, 0, 0, 0, 0, 0, 0};
        for (int what = 0; what < counts.length; what++) {
            due.is("gaol 3: count(" + what + ")", x.count(what), counts[what]);
        }
        due.is("gaol 3: guards", x.room(0, 1), 3);
        due.is("gaol 3: kitchen", x.room(0, 3), 1);
    }

    private static void doingResets() {
        OneKey x = Due.told("gaol 3;plain 0 1 1;hungry 0;hungry 1;soap 2");
        due.is("bread", x.act(2), 1);
        due.is("feed", x.act(3), 2);
        due.is("soap", x.act(84), 3);
        due.is("take", x.act(0), 4);
        x.row(0);
        x.heard(0, 0);
        x.keep(0);
        x.keep(1);
        Due.write(x, "bad");
        due.is("a fault", x.gaol(), OneKey.NOT);
        due.is("minutes go on", x.count(5), 4);
        due.is("the row is there", x.count(6), 1);
        due.is("heard is there", x.count(7), 1);
        due.is("kept is there", x.back(1), 4);
        x.erase();
        Due.write(x, "key 2");
        due.is("a text", x.gaol(), 1);
        long[] counts = {3, 1, 3, 2, 2, 0, 0, 0, 0};
        for (int what = 0; what < counts.length; what++) {
            due.is("behind a text: count(" + what + ")", x.count(what), counts[what]);
        }
        due.is("guards are back", x.room(0, 1), 3);
        due.is("guard 0 has nothing", x.guard(0, 1), 0);
        due.is("kept 0 is gone", x.back(0), OneKey.NOT);
        due.is("kept 1 is gone", x.back(1), OneKey.NOT);
    }

    private static void rooms() {
        OneKey x = Due.told("gaol 4;hungry 3;kitchen 2;guard 1 3;key 1");
        long[][] want = {{0, 1, 0, 0}, {0, 0, 1, 0}, {0, 0, 0, 1}, {1, 2, 0, 0}};
        for (int room = 0; room < 4; room++) {
            for (int what = 0; what < 4; what++) {
                due.is("room(" + room + ", " + what + ")", x.room(room, what), want[room][what]);
            }
            due.is("what 4", x.room(room, 4), OneKey.OUTSIDE);
            due.is("what -1", x.room(room, -1), OneKey.OUTSIDE);
        }
        due.is("room 4", x.room(4, 0), OneKey.UNKNOWN);
        due.is("room -1", x.room(-1, 0), OneKey.UNKNOWN);
        due.is("room 4 and what 4: unknown ahead", x.room(4, 4), OneKey.UNKNOWN);
        OneKey held = new OneKey();
        held.act(0);
        due.is("a key that is held hangs nowhere", held.room(0, 2), 0);
    }

    private static void doors() {
        OneKey x = Due.told("gaol 6;plain 5 1 0;oneway 4 2 1;two 0 3 1;weighed 3 5 0;sticking 1 2 1;false 2 1 0");
        long[][] want = {{5, 1, 0, 0}, {4, 2, 1, 1}, {0, 3, 2, 1}, {3, 5, 3, 0}, {1, 2, 4, 1}, {2, 1, 5, 0}};
        for (int door = 0; door < 6; door++) {
            for (int what = 0; what < 4; what++) {
                due.is("door(" + door + ", " + what + ")", x.door(door, what), want[door][what]);
            }
            due.is("what 4", x.door(door, 4), OneKey.OUTSIDE);
            due.is("what -1", x.door(door, -1), OneKey.OUTSIDE);
        }
        due.is("door 6", x.door(6, 0), OneKey.UNKNOWN);
        due.is("door -1", x.door(-1, 0), OneKey.UNKNOWN);
        due.is("door 6 and what 9: unknown ahead", x.door(6, 9), OneKey.UNKNOWN);
    }

    private static void kindsOverOneAnother() {
        OneKey x = Due.told("plain 0 1 0;oneway 0 1 0;two 0 1 0;weighed 0 1 0;sticking 0 1 0;false 0 1 0");
        int not = OneKey.NOT;
        long[][] want = {
            {2, 2, 2, not, not, not, not, not},
            {1, 1, 1, 1, not, not, not, not},
            {0, 0, not, not, 0, not, not, not},
            {2, 2, 2, not, not, 2, not, not},
            {2, 2, 2, 2, not, not, 2, not},
            {0, not, not, not, not, not, not, 0},
        };
        for (int door = 0; door < 6; door++) {
            for (int as = 0; as < 8; as++) {
                due.is("as(" + door + ", " + as + ")", x.as(door, as), want[door][as]);
            }
            due.is("as 8", x.as(door, 8), OneKey.OUTSIDE);
            due.is("as -1", x.as(door, -1), OneKey.OUTSIDE);
        }
        due.is("as of door 6", x.as(6, 0), OneKey.UNKNOWN);
        due.is("as of door -1 and as 8: unknown ahead", x.as(-1, 8), OneKey.UNKNOWN);
    }
}
