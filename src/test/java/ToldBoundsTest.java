/** Promises 1 and 6 to 8: a test for each sentence that names a bound, at it and on both sides. */
public final class ToldBoundsTest {
    private static final Due due = new Due("ToldBoundsTest");
    private static final int MIN = Integer.MIN_VALUE, MAX = Integer.MAX_VALUE;
    private static final int UNKNOWN = OneKey.UNKNOWN, OUTSIDE = OneKey.OUTSIDE, NOT = OneKey.NOT;
    private static final Twins fresh = new Twins(due, OneKey::new);
    private static final Twins busy = new Twins(due, Twins::busy);

    public static void main(String[] args) {
        constants();
        newObject();
        roomsThatThereAre();
        whatOfARoom();
        roomsTell();
        guardsByBits();
        doorsThatThereAre();
        whatOfADoor();
        doorsTell();
        kindsAsTaken();
        kindsOverOneAnother();
        waysThatOpen();
        firstRefusal();
        due.end();
    }

    private static void constants() {
        due.says("NONE = -1, UNKNOWN = -2, OUTSIDE = -3, NOT = -4, FULL = -5");
        due.is("NONE", OneKey.NONE, -1);
        due.is("UNKNOWN", OneKey.UNKNOWN, -2);
        due.is("OUTSIDE", OneKey.OUTSIDE, -3);
        due.is("NOT", OneKey.NOT, -4);
        due.is("FULL", OneKey.FULL, -5);
    }

    private static void newObject() {
        due.says("Two ROOMS, no DOORS, both GUARDS and THE KEY in the yard.");
        OneKey x = new OneKey();
        long[][] rooms = {{0, 3, 1, 1}, {0, 0, 0, 0}};
        for (int room = 0; room < 2; room++) {
            for (int what = 0; what < 4; what++) {
                due.is("room(" + room + ", " + what + ")", x.room(room, what), rooms[room][what]);
            }
        }
        for (int what = 0; what < 9; what++) {
            due.is("count(" + what + ")", x.count(what), what == 0 ? 2 : 0);
        }
        for (int guard = 0; guard < 2; guard++) {
            due.is("guard's room", x.guard(guard, 0), 0);
            due.is("guard has nothing", x.guard(guard, 1), 0);
            due.is("guard could TAKE or BREAD", x.guard(guard, 2), 2);
        }
        due.is("room(2, 0)", x.room(2, 0), UNKNOWN);
        due.is("door(0, 0)", x.door(0, 0), UNKNOWN);
        due.is("as(0, 0)", x.as(0, 0), UNKNOWN);
        due.is("worth(0)", x.worth(0), UNKNOWN);
        due.is("heard(0, 0)", x.heard(0, 0), UNKNOWN);
        due.is("back(0)", x.back(0), NOT);
        due.is("back(1)", x.back(1), NOT);
        due.is("fewest", x.fewest(-1), 0);
        due.is("out", x.out(-1), 0);
        due.is("night(10, 0)", x.night(10, 0), 1);
        due.is("night(10, 1)", x.night(10, 1), 1);
    }

    private static void roomsThatThereAre() {
        due.says("Of a ROOM: .. UNKNOWN");
        for (int n = 2; n <= 6; n++) {
            OneKey x = Due.told("gaol " + n);
            for (int what = 0; what < 4; what++) {
                due.is("room(-1, " + what + ") of " + n, x.room(-1, what), UNKNOWN);
                due.is("room(n, " + what + ") of " + n, x.room(n, what), UNKNOWN);
                due.is("room(n + 1, " + what + ") of " + n, x.room(n + 1, what), UNKNOWN);
                due.is("room(n - 1, " + what + ") of " + n, x.room(n - 1, what), 0);
            }
        }
        due.is("room(5, 0) behind gaol 2", Due.told("gaol 6;hungry 5", "gaol 2").room(5, 0), UNKNOWN);
        for (int room : new int[] {-1, 6, 32, MIN, MAX}) {
            busy.same("room(" + room + ", 0)", x -> x.room(room, 0), UNKNOWN);
            fresh.same("room(" + room + ", 0)", x -> x.room(room, 0), UNKNOWN);
        }
    }

    private static void whatOfARoom() {
        due.says("Of a ROOM: .. (what 0), .. (1), .. (2), .. (3). UNKNOWN; OUTSIDE.");
        for (int what : new int[] {-1, 4, MIN, MAX}) {
            busy.same("room(5, " + what + ")", x -> x.room(5, what), OUTSIDE);
            fresh.same("room(1, " + what + ")", x -> x.room(1, what), OUTSIDE);
        }
    }

    private static void roomsTell() {
        due.says("1 HUNGRY now, 0 (what 0), .. 1 THE KEY hangs there, 0 (2), 1 the KITCHEN, 0 (3)");
        OneKey x = Due.told("gaol 6;hungry 5;hungry 0;key 5;kitchen 5;guard 0 5");
        long[][] want = {{1, 2, 0, 0}, {0, 0, 0, 0}, {0, 0, 0, 0}, {0, 0, 0, 0}, {0, 0, 0, 0}, {1, 1, 1, 1}};
        for (int room = 0; room < 6; room++) {
            for (int what = 0; what < 4; what++) {
                due.is("room(" + room + ", " + what + ")", x.room(room, what), want[room][what]);
            }
        }
        x.act(2);
        due.is("still hungry", x.room(5, 0), 1);
        x.act(3);
        due.is("not hungry any more", x.room(5, 0), 0);
        due.is("another one is", x.room(0, 0), 1);
        x.act(0);
        due.is("the key does not hang, a guard has it", x.room(5, 2), 0);
        due.is("nor elsewhere", x.room(0, 2), 0);
        x.act(1);
        due.is("it hangs again", x.room(5, 2), 1);
    }

    private static void guardsByBits() {
        due.says("GUARDS there, by bits (1)");
        for (int one = 0; one < 6; one++) {
            for (int two = 0; two < 6; two++) {
                OneKey x = Due.told("gaol 6;guard 0 " + one + ";guard 1 " + two);
                for (int room = 0; room < 6; room++) {
                    int bits = (room == one ? 1 : 0) + (room == two ? 2 : 0);
                    due.is("room(" + room + ", 1), guards in " + one + " and " + two, x.room(room, 1), bits);
                }
            }
        }
    }

    private static OneKey doors(int doors) {
        OneKey x = new OneKey();
        for (int i = 0; i < doors; i++) {
            Due.write(x, "false 0 1 1");
            x.gaol();
        }
        return x;
    }

    private static void doorsThatThereAre() {
        due.says("DOORS are 0, 1 .. as they come, 10 at most (none at first)");
        for (int doors = 0; doors <= 10; doors++) {
            OneKey x = doors(doors);
            due.is("doors", x.count(1), doors);
            due.is("door(-1, 2) of " + doors, x.door(-1, 2), UNKNOWN);
            due.is("the door behind the last of " + doors, x.door(doors, 2), UNKNOWN);
            due.is("as of it", x.as(doors, 0), UNKNOWN);
            due.is("as of -1", x.as(-1, 0), UNKNOWN);
            if (doors > 0) {
                due.is("the last door of " + doors, x.door(doors - 1, 2), 5);
                due.is("as of it", x.as(doors - 1, 7), 0);
            }
        }
        for (int door : new int[] {-1, 8, 10, MIN, MAX}) {
            busy.same("door(" + door + ", 0)", x -> x.door(door, 0), UNKNOWN);
            busy.same("as(" + door + ", 0)", x -> x.as(door, 0), UNKNOWN);
            fresh.same("door(" + door + ", 3)", x -> x.door(door, 3), UNKNOWN);
            fresh.same("as(" + door + ", 7)", x -> x.as(door, 7), UNKNOWN);
        }
    }

    private static void whatOfADoor() {
        due.says("Of a DOOR: its ROOMS (what 0, 1), KIND (2), WICKET (3). .. OUTSIDE");
        for (int what : new int[] {-1, 4, MIN, MAX}) {
            busy.same("door(7, " + what + ")", x -> x.door(7, what), OUTSIDE);
            busy.same("door(0, " + what + ")", x -> x.door(0, what), OUTSIDE);
        }
    }

    private static void doorsTell() {
        due.says("0 PLAIN, 1 ONEWAY, 2 TWO, 3 WEIGHED, 4 STICKING, 5 FALSE; with a WICKET (1) or without (0)");
        OneKey x = Due.told("gaol 6;plain 0 5 0;oneway 5 0 1;two 4 3 0;weighed 3 4 1;sticking 1 2 0;false 2 1 1",
            "false 0 1 0;sticking 5 4 1;oneway 4 5 0;plain 2 3 1");
        int[][] want = {{0, 5, 0, 0}, {5, 0, 1, 1}, {4, 3, 2, 0}, {3, 4, 3, 1}, {1, 2, 4, 0}, {2, 1, 5, 1},
            {0, 1, 5, 0}, {5, 4, 4, 1}, {4, 5, 1, 0}, {2, 3, 0, 1}};
        for (int door = 0; door < 10; door++) {
            for (int what = 0; what < 4; what++) {
                due.is("door(" + door + ", " + what + ")", x.door(door, what), want[door][what]);
            }
        }
    }

    private static void kindsAsTaken() {
        due.says("A DOOR taken as a KIND (0 .. 7 ..): .. OUTSIDE");
        for (int as : new int[] {-1, 8, MIN, MAX}) {
            for (int door : new int[] {0, 1, 2, 3, 4, 5, 6, 7}) {
                due.is("as(" + door + ", " + as + ")", Twins.busy().as(door, as), OUTSIDE);
            }
            busy.same("as(7, " + as + ")", x -> x.as(7, as), OUTSIDE);
        }
        due.is("as(0, 0)", Twins.busy().as(0, 0), 2);
        due.is("as(5, 7)", Twins.busy().as(5, 7), 0);
    }

    private static void kindsOverOneAnother() {
        due.says("KINDS are over one another: .. NOT: it is none such");
        OneKey x = Due.told("plain 0 1 0;oneway 0 1 0;two 0 1 0;weighed 0 1 0;sticking 0 1 0;false 0 1 0");
        // By the kinds DOOR, REAL, PLAIN, ONEWAY, TWO, WEIGHED, STICKING, FALSE.
        String[] are = {"yyy.....", "yyyy....", "yy..y...", "yyy..y..", "yyyy..y.", "y......y"};
        int[] ways = {2, 1, 0, 2, 2, 0};
        for (int door = 0; door < 6; door++) {
            for (int as = 0; as < 8; as++) {
                long want = are[door].charAt(as) == 'y' ? ways[door] : NOT;
                due.is("as(" + door + ", " + as + ")", x.as(door, as), want);
            }
        }
        busy.same("as(0, 3): a plain door is no oneway", o -> o.as(0, 3), NOT);
        busy.same("as(5, 1): a false door is not real", o -> o.as(5, 1), NOT);
        busy.same("as(2, 2): a door for two is not plain", o -> o.as(2, 2), NOT);
    }

    private static void waysThatOpen() {
        due.says("how many of its two ways OPEN to a GUARD that GOES alone with THE KEY");
        OneKey turned = Due.told("plain 1 0 1;oneway 1 0 1;two 1 0 1;weighed 1 0 1;sticking 1 0 1;false 1 0 1");
        int[] ways = {2, 1, 0, 2, 2, 0};
        for (int door = 0; door < 6; door++) {
            due.is("as(" + door + ", 0)", turned.as(door, 0), ways[door]);
        }
        turned.act(2);
        turned.act(50);
        for (int door = 0; door < 6; door++) {
            due.is("as(" + door + ", 0), whatever the guards have", turned.as(door, 0), ways[door]);
        }
    }

    private static void firstRefusal() {
        due.says("UNKNOWN .., OUTSIDE .., NOT .., FULL: the first of these that fits");
        busy.same("room(6, 4)", x -> x.room(6, 4), UNKNOWN);
        busy.same("room(-1, -1)", x -> x.room(-1, -1), UNKNOWN);
        busy.same("door(8, 4)", x -> x.door(8, 4), UNKNOWN);
        busy.same("door(-1, -1)", x -> x.door(-1, -1), UNKNOWN);
        busy.same("as(8, 8)", x -> x.as(8, 8), UNKNOWN);
        busy.same("as(-1, -1)", x -> x.as(-1, -1), UNKNOWN);
        busy.same("as(8, 6)", x -> x.as(8, 6), UNKNOWN);
        busy.same("as(0, 8)", x -> x.as(0, 8), OUTSIDE);
    }
}
