/** Promises 9 and 10: act, guard. */
public final class ActsTest {
    private static final Due due = new Due("ActsTest");
    private static final int NOT = OneKey.NOT;

    public static void main(String[] args) {
        codes();
        takeAndHang();
        breadAndFeed();
        hand();
        go();
        goBoth();
        soap();
        doorsThatOpen();
        guards();
        due.end();
    }

    private static void codes() {
        OneKey x = new OneKey();
        due.is("act(-1)", x.act(-1), OneKey.OUTSIDE);
        due.is("act(100)", x.act(100), OneKey.OUTSIDE);
        due.is("act(MAX)", x.act(Integer.MAX_VALUE), OneKey.OUTSIDE);
        for (int code = 44; code < 50; code++) {
            due.is("act(" + code + ")", x.act(code), NOT);
            due.is("act(" + (50 + code) + ")", x.act(50 + code), NOT);
        }
        due.is("refused acts take no minute", x.count(5), 0);
        OneKey atDoor = Due.told("plain 0 1 1;soap 1");
        atDoor.act(0);
        due.is("no act at a door either", atDoor.act(44), NOT);
    }

    private static void takeAndHang() {
        OneKey x = Due.told("gaol 3;guard 1 1;plain 0 1 0");
        due.is("hang without the key", x.act(1), NOT);
        due.is("take in another room", x.act(50), NOT);
        due.is("take", x.act(0), 1);
        due.is("it has it", x.guard(0, 1), 2);
        due.is("it hangs nowhere", x.count(4), OneKey.NONE);
        due.is("take twice", x.act(0), NOT);
        due.is("bread with the key", x.act(2), NOT);
        due.is("hang", x.act(1), 2);
        due.is("it has nothing", x.guard(0, 1), 0);
        due.is("it hangs", x.count(4), 0);
        due.is("bread", x.act(2), 3);
        due.is("take with bread", x.act(0), NOT);
        OneKey both = new OneKey();
        due.is("guard 1 takes", both.act(50), 1);
        due.is("guard 0 can't", both.act(0), NOT);
        due.is("guard 0 can't hang another's key", both.act(1), NOT);
        due.is("guard 1 hangs", both.act(51), 2);
        due.is("guard 0 takes then", both.act(0), 3);
    }

    private static void breadAndFeed() {
        OneKey x = Due.told("gaol 3;kitchen 1;guard 0 1;guard 1 2;hungry 1;hungry 2");
        due.is("bread elsewhere", x.act(52), NOT);
        due.is("feed without bread", x.act(3), NOT);
        due.is("bread", x.act(2), 1);
        due.is("it has bread", x.guard(0, 1), 1);
        due.is("bread twice", x.act(2), NOT);
        due.is("another one can't feed", x.act(53), NOT);
        due.is("feed", x.act(3), 2);
        due.is("it has nothing", x.guard(0, 1), 0);
        due.is("fed", x.count(2), 4);
        due.is("bread again", x.act(2), 3);
        due.is("feed one that is fed", x.act(3), NOT);
    }

    private static void hand() {
        OneKey x = Due.told("gaol 4;oneway 1 0 1;plain 0 2 0;false 0 2 1;hungry 2;guard 1 1", "plain 2 3 1");
        due.is("hand without bread", x.act(4), NOT);
        due.is("bread", x.act(2), 1);
        due.is("through no wicket", x.act(5), NOT);
        due.is("through a door of other rooms", x.act(7), NOT);
        due.is("through no door", x.act(8), NOT);
        due.is("to the other guard, against a oneway's way", x.act(4), 2);
        due.is("it has nothing", x.guard(0, 1), 0);
        due.is("the other has bread", x.guard(1, 1), 1);
        due.is("bread", x.act(2), 3);
        due.is("to one that has bread: it is lost", x.act(4), 4);
        due.is("it has nothing", x.guard(0, 1), 0);
        due.is("the other still has one", x.guard(1, 1), 1);
        due.is("back", x.act(54), 5);
        due.is("guard 0 has bread", x.guard(0, 1), 1);
        due.is("through a false door's wicket to a hungry one", x.act(6), 6);
        due.is("fed", x.count(2), 0);
        due.is("bread", x.act(2), 7);
        due.is("to nobody", x.act(6), 8);
        due.is("it is lost", x.guard(0, 1), 0);
        OneKey first = Due.told("plain 0 1 1;hungry 1;guard 1 1");
        first.act(2);
        due.is("hand", first.act(4), 2);
        due.is("the hungry one is ahead of the guard", first.count(2), 0);
        due.is("the guard gets nothing", first.guard(1, 1), 0);
        OneKey key = Due.told("plain 0 1 1;guard 1 1;key 1");
        key.act(50);
        key.act(2);
        due.is("hand to one that has the key", key.act(4), 3);
        due.is("the key stays", key.guard(1, 1), 2);
    }

    private static void go() {
        OneKey x = Due.told("gaol 3;plain 0 1 0;plain 1 2 0");
        due.is("without the key", x.act(14), NOT);
        x.act(0);
        due.is("through a door of other rooms", x.act(15), NOT);
        due.is("through no door", x.act(16), NOT);
        due.is("go", x.act(14), 2);
        due.is("it is there", x.guard(0, 0), 1);
        due.is("the key hangs there", x.count(4), 1);
        due.is("it has nothing", x.guard(0, 1), 0);
        due.is("the other stays", x.guard(1, 0), 0);
        due.is("not without taking it", x.act(15), NOT);
        x.act(0);
        due.is("back through the same door", x.act(14), 4);
        due.is("it is back", x.guard(0, 0), 0);
        due.is("the key too", x.count(4), 0);
    }

    private static void goBoth() {
        OneKey x = Due.told("gaol 3;plain 0 1 0;plain 1 2 0");
        x.act(50);
        x.act(2);
        due.is("by the one without the key", x.act(24), NOT);
        due.is("go both", x.act(74), 3);
        due.is("both are there", x.room(1, 1), 3);
        due.is("the key hangs there", x.room(1, 2), 1);
        due.is("bread comes along", x.guard(0, 1), 1);
        x.act(50);
        due.is("go alone", x.act(65), 5);
        due.is("apart", x.room(2, 1), 2);
        x.act(50);
        due.is("both, when apart", x.act(75), NOT);
        due.is("alone then", x.act(65), 7);
    }

    private static void soap() {
        OneKey x = Due.told("gaol 3;plain 0 1 0;plain 1 2 0;soap 2");
        due.is("soap", x.act(34), 1);
        due.is("it is there", x.guard(0, 0), 1);
        due.is("the key is not", x.count(4), 0);
        due.is("a turn less", x.count(3), 1);
        due.is("through a door of other rooms", x.act(85), NOT);
        x.act(52);
        due.is("with bread", x.act(84), NOT);
        due.is("again", x.act(35), 3);
        due.is("worn out", x.count(3), 0);
        due.is("no more", x.act(35), NOT);
        OneKey key = Due.told("plain 0 1 0;soap 3");
        key.act(0);
        due.is("with the key", key.act(34), NOT);
    }

    /** Of each kind: GO from the first room and from the second, GO BOTH, GO BOTH with bread, SOAP. */
    private static void doorsThatOpen() {
        String[] kinds = {"plain", "oneway", "two", "weighed", "sticking", "false"};
        boolean[][] opens = {
            {true, true, true, true, true, true, true, true},
            {true, false, true, false, true, false, true, false},
            {false, false, true, true, true, true, false, false},
            {true, true, true, true, false, false, true, true},
            {true, true, false, false, false, false, false, false},
            {false, false, false, false, false, false, false, false},
        };
        for (int kind = 0; kind < kinds.length; kind++) {
            for (int how = 0; how < 8; how++) {
                int from = how % 2;
                String text = kinds[kind] + " 0 1 0;soap 1;key R;guard 0 R;guard 1 R;kitchen R".replace('R', (char) ('0' + from));
                OneKey x = Due.told(text);
                if (how / 2 == 2) {
                    x.act(52);
                }
                if (how / 2 < 3) {
                    x.act(0);
                }
                int code = how / 2 == 0 ? 14 : how / 2 == 3 ? 34 : 24;
                int minutes = x.count(5);
                due.is(kinds[kind] + ", how " + how, x.act(code), opens[kind][how] ? minutes + 1 : NOT);
                due.is(kinds[kind] + ", how " + how + ": guard 0", x.guard(0, 0), opens[kind][how] ? 1 - from : from);
                boolean both = opens[kind][how] && code == 24;
                due.is(kinds[kind] + ", how " + how + ": guard 1", x.guard(1, 0), both ? 1 - from : from);
            }
        }
    }

    private static void guards() {
        OneKey x = Due.told("gaol 3;plain 0 1 1;oneway 1 0 1;sticking 0 2 0;guard 1 2;soap 1");
        due.is("guard 2", x.guard(2, 0), OneKey.UNKNOWN);
        due.is("guard -1", x.guard(-1, 5), OneKey.UNKNOWN);
        due.is("what 3", x.guard(0, 3), OneKey.OUTSIDE);
        due.is("what -1", x.guard(1, -1), OneKey.OUTSIDE);
        due.is("room of 0", x.guard(0, 0), 0);
        due.is("room of 1", x.guard(1, 0), 2);
        due.is("take, bread, soap", x.guard(0, 2), 3);
        due.is("nothing at all", x.guard(1, 2), 0);
        x.act(2);
        due.is("two hands", x.guard(0, 2), 2);
        x.act(4);
        x.act(0);
        due.is("hang, two goes", x.guard(0, 2), 3);
        OneKey both = Due.told("plain 0 1 1;oneway 0 1 0;two 1 0 0;hungry 0");
        both.act(0);
        both.act(52);
        due.is("hang, two goes, three goes of both", both.guard(0, 2), 6);
        due.is("feed, a hand", both.guard(1, 2), 2);
        due.is("telling changes nothing", both.count(5), 2);
    }
}
