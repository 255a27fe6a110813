/** Promises 9 and 10: a test for each sentence that names a bound, at it and on both sides. */
public final class ActBoundsTest {
    private static final Due due = new Due("ActBoundsTest");
    private static final int MIN = Integer.MIN_VALUE, MAX = Integer.MAX_VALUE;
    private static final int UNKNOWN = OneKey.UNKNOWN, OUTSIDE = OneKey.OUTSIDE, NOT = OneKey.NOT;
    private static final Twins fresh = new Twins(due, OneKey::new);
    private static final Twins busy = new Twins(due, Twins::busy);
    /** Ten doors between the yard, where all begin, and room 1. */
    private static final String TEN = "plain 0 1 1;".repeat(9) + "plain 1 0 1";

    public static void main(String[] args) {
        codes();
        codesOfNoAct();
        minutes();
        take();
        hang();
        bread();
        feed();
        hand();
        handIsFor();
        go();
        goBoth();
        soap();
        doorsOfCodes();
        falseDoors();
        onewayDoors();
        doorsForTwo();
        weighedDoors();
        stickingDoors();
        guardsThatThereAre();
        whatOfAGuard();
        codesThatItCouldDo();
        firstRefusal();
        due.end();
    }

    /** An object to which a text was told and then acts were done. */
    private static OneKey after(String text, int... acts) {
        OneKey x = Due.told(text);
        for (int i = 0; i < acts.length; i++) {
            due.is("act(" + acts[i] + ") behind " + text, x.act(acts[i]), i + 1);
        }
        return x;
    }

    private static void refused(String text, int code, int... acts) {
        String name = "act(" + code + ") behind " + text + " and " + acts.length + " acts";
        new Twins(due, () -> after(text, acts)).same(name, x -> x.act(code), NOT);
    }

    private static void codes() {
        due.says("An ACT (CODE 0 .. 99): .. OUTSIDE");
        for (int code : new int[] {-1, 100, -50, 150, MIN, MAX}) {
            fresh.same("act(" + code + ")", x -> x.act(code), OUTSIDE);
            busy.same("act(" + code + ")", x -> x.act(code), OUTSIDE);
        }
        due.is("act(0)", new OneKey().act(0), 1);
        due.is("act(99)", new OneKey().act(99), NOT);
    }

    private static void codesOfNoAct() {
        due.says("ACTS .. have CODES (50 more for GUARD 1)");
        for (int code = 44; code < 50; code++) {
            int none = code;
            busy.same("act(" + none + ")", x -> x.act(none), NOT);
            busy.same("act(" + (none + 50) + ")", x -> x.act(none + 50), NOT);
        }
        for (int guard = 0; guard < 2; guard++) {
            OneKey x = new OneKey();
            x.act(50 * guard);
            due.is("guard " + guard + " has the key", x.guard(guard, 1), 2);
            due.is("the other has nothing", x.guard(1 - guard, 1), 0);
        }
    }

    private static void minutes() {
        due.says("each takes a MINUTE");
        OneKey x = new OneKey();
        for (int i = 0; i < 400; i++) {
            due.is("act " + i, x.act(i % 2), i + 1);
        }
        due.is("minutes", x.count(5), 400);
        due.is("refused", x.act(51), NOT);
        due.is("a refused act takes none", x.count(5), 400);
    }

    private static void take() {
        due.says("TAKE: it has nothing, THE KEY hangs in r: it has it");
        OneKey x = after("gaol 6;key 5;guard 0 5;guard 1 5", 50);
        due.is("guard 1 has it", x.guard(1, 1), 2);
        due.is("it does not hang", x.count(4), OneKey.NONE);
        refused("gaol 6;key 5;guard 0 4;guard 1 4", 0);
        refused("gaol 6;key 5;guard 0 4;guard 1 4", 50);
        refused("soap 1", 0, 0);
        refused("soap 1", 0, 50);
        refused("soap 1", 50, 0);
        refused("soap 1", 0, 2);
        refused("soap 1", 50, 52);
    }

    private static void hang() {
        due.says("HANG: it has THE KEY: that hangs in r");
        OneKey x = after("gaol 6;key 5;guard 0 5", 0, 1);
        due.is("it hangs", x.count(4), 5);
        due.is("it has nothing", x.guard(0, 1), 0);
        refused("soap 1", 1);
        refused("soap 1", 51);
        refused("soap 1", 1, 50);
        refused("soap 1", 51, 0);
        refused("soap 1", 1, 2);
        refused("soap 1", 1, 0, 1);
    }

    private static void bread() {
        due.says("BREAD: it has nothing, r is the KITCHEN: it has BREAD");
        OneKey x = after("gaol 6;kitchen 5;guard 0 5;guard 1 5", 2, 52);
        due.is("guard 0 has bread", x.guard(0, 1), 1);
        due.is("guard 1 has bread", x.guard(1, 1), 1);
        refused("gaol 6;kitchen 5;guard 0 4", 2);
        refused("gaol 6;kitchen 5;guard 0 5", 52);
        refused("soap 1", 2, 2);
        refused("soap 1", 52, 52);
        refused("soap 1", 2, 0);
        refused("soap 1", 52, 50);
    }

    private static void feed() {
        due.says("FEED: it has BREAD, r is HUNGRY: r is not any more, it has nothing");
        OneKey x = after("gaol 6;kitchen 5;guard 1 5;hungry 5;hungry 4", 52, 53);
        due.is("the other room is still hungry", x.count(2), 16);
        due.is("it has nothing", x.guard(1, 1), 0);
        refused("hungry 0", 3);
        refused("hungry 0", 53);
        refused("hungry 0", 53, 2);
        refused("hungry 0", 3, 0);
        refused("hungry 1", 3, 2);
        refused("hungry 0", 3, 2, 3, 2);
        refused("hungry 0", 53, 2, 52, 3);
    }

    private static void hand() {
        due.says("HAND: it has BREAD, DOOR d is of r and has a WICKET");
        refused("plain 0 1 1;hungry 1", 4);
        refused("plain 0 1 1;hungry 1", 4, 0);
        refused("plain 0 1 1;hungry 1", 54, 2);
        refused("plain 0 1 0;hungry 1", 4, 2);
        refused("plain 0 1 1;hungry 1", 5, 2);
        refused("gaol 3;plain 1 2 1;hungry 1", 4, 2);
        for (String word : new String[] {"plain", "oneway", "two", "weighed", "sticking", "false"}) {
            due.is("fed through " + word, after(word + " 0 1 1;hungry 1", 2, 4).count(2), 0);
            due.is("fed through " + word + ", turned", after(word + " 1 0 1;hungry 1", 52, 54).count(2), 0);
        }
    }

    private static void handIsFor() {
        due.says("the ROOM behind it, if that is HUNGRY, is not any more; else, if the other GUARD is there and has nothing,"
            + " that one has the BREAD; the first has nothing");
        OneKey hungry = after("plain 0 1 1;hungry 1;guard 1 1", 2, 4);
        due.is("the hungry one is fed", hungry.count(2), 0);
        due.is("the guard there has nothing", hungry.guard(1, 1), 0);
        due.is("nor has the first", hungry.guard(0, 1), 0);
        OneKey guard = after("plain 0 1 1;hungry 0;guard 1 1", 2, 4);
        due.is("nobody is fed", guard.count(2), 1);
        due.is("the guard there has bread", guard.guard(1, 1), 1);
        due.is("the first has nothing", guard.guard(0, 1), 0);
        OneKey bread = after("plain 0 1 1;guard 1 1", 2, 4, 2, 4);
        due.is("a guard that has bread has it still", bread.guard(1, 1), 1);
        due.is("the first has nothing", bread.guard(0, 1), 0);
        OneKey key = after("plain 0 1 1;guard 1 1;key 1", 50, 2, 4);
        due.is("a guard that has the key has it still", key.guard(1, 1), 2);
        due.is("the first has nothing", key.guard(0, 1), 0);
        OneKey nobody = after("gaol 3;plain 0 1 1;guard 1 2;hungry 2", 2, 4);
        due.is("nobody there: guard 1 elsewhere has nothing", nobody.guard(1, 1), 0);
        due.is("nobody there: the first has nothing", nobody.guard(0, 1), 0);
        due.is("nobody there: hungry elsewhere", nobody.count(2), 4);
        OneKey beside = after("plain 0 1 1", 2, 4);
        due.is("a guard beside the first has nothing", beside.guard(1, 1), 0);
    }

    private static void go() {
        due.says("GO: it has THE KEY, DOOR d is of r and OPENS: it is in the ROOM behind it, THE KEY hangs there");
        OneKey x = after("gaol 6;plain 5 4 0;key 4;guard 1 4", 50, 64);
        due.is("it is there", x.guard(1, 0), 5);
        due.is("it has nothing", x.guard(1, 1), 0);
        due.is("the key hangs there", x.count(4), 5);
        due.is("the other stays", x.guard(0, 0), 0);
        refused("plain 0 1 0", 14);
        refused("plain 0 1 0", 14, 50);
        refused("plain 0 1 0", 14, 2);
        refused("plain 0 1 0", 15, 0);
        refused("plain 0 1 0", 23, 0);
        refused("gaol 3;plain 1 2 0", 14, 0);
    }

    private static void goBoth() {
        due.says("GO BOTH: likewise, and the other GUARD, who is in r, comes along with what it has");
        OneKey x = after("plain 0 1 0", 0, 52, 24);
        due.is("both are there", x.room(1, 1), 3);
        due.is("the key hangs there", x.count(4), 1);
        due.is("it has nothing", x.guard(0, 1), 0);
        due.is("the other has its bread", x.guard(1, 1), 1);
        due.is("an other with nothing has nothing", after("plain 0 1 0", 50, 74).guard(0, 1), 0);
        refused("plain 0 1 0;guard 1 1", 24, 0);
        refused("plain 0 1 0;guard 0 1;guard 1 0", 74, 50);
        refused("plain 0 1 0", 24);
        refused("plain 0 1 0", 24, 50);
        refused("plain 0 1 0", 74, 0);
        refused("plain 0 1 0", 25, 0);
        refused("gaol 3;plain 1 2 0", 24, 0);
    }

    private static void soap() {
        due.says("SOAP: it has nothing, SOAP has a TURN, DOOR d is of r and OPENS: .. SOAP has a TURN less");
        for (int turns = 0; turns <= 3; turns++) {
            OneKey x = Due.told("plain 0 1 0;soap " + turns);
            for (int i = 1; i <= turns; i++) {
                due.is("soap " + i + " of " + turns, x.act(34), i);
                due.is("turns left", x.count(3), turns - i);
                due.is("it is there", x.guard(0, 0), i % 2);
                due.is("the key stays", x.count(4), 0);
            }
            due.is("soap is worn out", x.act(34), NOT);
            due.is("for the other too", x.act(84), NOT);
            due.is("turns left", x.count(3), 0);
            due.is("minutes", x.count(5), turns);
        }
        refused("plain 0 1 0;soap 0", 34);
        refused("plain 0 1 0;soap 1", 84, 34);
        refused("plain 0 1 0;soap 3", 34, 0);
        refused("plain 0 1 0;soap 3", 34, 2);
        refused("plain 0 1 0;soap 3", 35);
        refused("gaol 3;plain 1 2 0;soap 3", 34);
        due.is("the other's key does not matter", after("plain 0 1 0;soap 1", 50, 34).guard(0, 0), 1);
    }

    private static void doorsOfCodes() {
        due.says("4 and d HAND .. 14 and d GO .. 24 and d GO BOTH .. 34 and d SOAP");
        for (int door = 0; door < 10; door++) {
            for (int guard = 0; guard < 2; guard++) {
                int more = 50 * guard + door;
                OneKey hand = Due.told(TEN, "guard " + (1 - guard) + " 1;hungry 1");
                hand.act(50 * guard + 2);
                due.is("hand at " + door, hand.act(4 + more), 2);
                due.is("fed", hand.count(2), 0);
                due.is("nobody went", hand.guard(guard, 0), 0);
                OneKey go = Due.told(TEN);
                go.act(50 * guard);
                due.is("go at " + door, go.act(14 + more), 2);
                due.is("one went", go.room(1, 1), 1 << guard);
                OneKey both = Due.told(TEN);
                both.act(50 * guard);
                due.is("go both at " + door, both.act(24 + more), 2);
                due.is("both went", both.room(1, 1), 3);
                OneKey soap = Due.told(TEN, "soap 1");
                due.is("soap at " + door, soap.act(34 + more), 1);
                due.is("one went by soap", soap.room(1, 1), 1 << guard);
                due.is("the turn is gone", soap.count(3), 0);
            }
        }
        OneKey ten = Due.told(TEN, "soap 1");
        due.is("there is no door 10", ten.act(44), NOT);
        due.is("nor for guard 1", ten.act(94), NOT);
    }

    private static void falseDoors() {
        due.says("A DOOR OPENS: FALSE never");
        for (String text : new String[] {"false 0 1 1;soap 1", "false 1 0 1;soap 1"}) {
            refused(text, 14, 0);
            refused(text, 24, 0);
            refused(text, 34);
        }
    }

    private static void onewayDoors() {
        due.says("ONEWAY from the first of its ROOMS alone");
        due.is("go", after("oneway 0 1 0", 0, 14).guard(0, 0), 1);
        due.is("go both", after("oneway 0 1 0", 0, 24).room(1, 1), 3);
        due.is("soap", after("oneway 0 1 0;soap 1", 34).guard(0, 0), 1);
        refused("oneway 1 0 0", 14, 0);
        refused("oneway 1 0 0", 24, 0);
        refused("oneway 1 0 0;soap 1", 34);
    }

    private static void doorsForTwo() {
        due.says("TWO by GO BOTH alone");
        for (String text : new String[] {"two 0 1 0;soap 1", "two 1 0 0;soap 1"}) {
            due.is("go both", after(text, 0, 24).room(1, 1), 3);
            due.is("go both with bread", after(text, 0, 52, 24).room(1, 1), 3);
            refused(text, 14, 0);
            refused(text, 34);
        }
        refused("two 0 1 0;guard 1 1", 24, 0);
    }

    private static void weighedDoors() {
        due.says("WEIGHED if nobody who goes has BREAD");
        for (String text : new String[] {"weighed 0 1 0;soap 1", "weighed 1 0 0;soap 1"}) {
            due.is("go", after(text, 0, 14).guard(0, 0), 1);
            due.is("go, while one who stays has bread", after(text, 0, 52, 14).guard(0, 0), 1);
            due.is("go both", after(text, 0, 24).room(1, 1), 3);
            due.is("soap", after(text, 34).guard(0, 0), 1);
            due.is("soap, while one who stays has bread", after(text, 52, 34).guard(0, 0), 1);
            refused(text, 24, 0, 52);
            refused(text, 74, 50, 2);
        }
    }

    private static void stickingDoors() {
        due.says("STICKING by GO alone");
        for (String text : new String[] {"sticking 0 1 0;soap 1", "sticking 1 0 0;soap 1"}) {
            due.is("go", after(text, 0, 14).guard(0, 0), 1);
            refused(text, 24, 0);
            refused(text, 34);
        }
    }

    private static void guardsThatThereAre() {
        due.says("Of a GUARD: .. UNKNOWN");
        for (int guard : new int[] {-1, 2, 50, MIN, MAX}) {
            for (int what = 0; what < 3; what++) {
                int asked = what;
                busy.same("guard(" + guard + ", " + what + ")", x -> x.guard(guard, asked), UNKNOWN);
            }
        }
        due.is("guard(0, 0)", Twins.busy().guard(0, 0), 1);
        due.is("guard(1, 0)", Twins.busy().guard(1, 0), 1);
    }

    private static void whatOfAGuard() {
        due.says("Of a GUARD: its ROOM (what 0), what it has (1), CODES that it could do now (2: how many). .. OUTSIDE");
        for (int what : new int[] {-1, 3, MIN, MAX}) {
            busy.same("guard(0, " + what + ")", x -> x.guard(0, what), OUTSIDE);
            busy.same("guard(1, " + what + ")", x -> x.guard(1, what), OUTSIDE);
        }
        due.is("guard 0 has the key", Twins.busy().guard(0, 1), 2);
        due.is("guard 1 has bread", Twins.busy().guard(1, 1), 1);
    }

    private static void codesThatItCouldDo() {
        due.says("CODES that it could do now (2: how many)");
        due.is("nothing at all", Due.told("guard 0 1;guard 1 1;plain 0 1 1").guard(0, 2), 0);
        OneKey x = Due.told(TEN, "soap 3;hungry 0");
        due.is("TAKE, BREAD, ten by SOAP", x.guard(0, 2), 12);
        x.act(0);
        due.is("HANG, ten by GO, ten by GO BOTH", x.guard(0, 2), 21);
        due.is("BREAD, ten by SOAP", x.guard(1, 2), 11);
        x.act(52);
        due.is("FEED, ten by HAND", x.guard(1, 2), 11);
        x.act(14);
        due.is("TAKE, ten by SOAP, BREAD being elsewhere", x.guard(0, 2), 11);
        due.is("asking takes no minute", x.count(5), 3);
        OneKey apart = Due.told(TEN, "guard 1 1");
        apart.act(0);
        due.is("HANG, ten by GO", apart.guard(0, 2), 11);
        due.is("nothing, the key being held", apart.guard(1, 2), 0);
    }

    private static void firstRefusal() {
        due.says("UNKNOWN .., OUTSIDE .., NOT .., FULL: the first of these that fits");
        busy.same("guard(2, 3)", x -> x.guard(2, 3), UNKNOWN);
        busy.same("guard(-1, -1)", x -> x.guard(-1, -1), UNKNOWN);
        busy.same("act(100), which can not be either", x -> x.act(100), OUTSIDE);
    }
}
