/** Promises 16 to 18: a test for each sentence that names a bound, at it and on both sides. */
public final class RowBoundsTest {
    private static final Due due = new Due("RowBoundsTest");
    private static final int NONE = OneKey.NONE, OUTSIDE = OneKey.OUTSIDE;
    private static final int[] NO_CODES = {-1, 100, Integer.MIN_VALUE, Integer.MAX_VALUE};
    private static final Twins fresh = new Twins(due, OneKey::new);
    private static final Twins busy = new Twins(due, Twins::busy);
    private static final Twins full = new Twins(due, () -> withRow(20));

    public static void main(String[] args) {
        codes();
        twenty();
        burning();
        judged();
        judgedFromNow();
        judgedOneByOne();
        judgingChangesNothing();
        firstRefusal();
        due.end();
    }

    /** TAKE and HANG by turns, so many codes. */
    private static OneKey withRow(int codes) {
        OneKey x = Due.told("plain 0 1 0");
        for (int i = 0; i < codes; i++) {
            due.is("row", x.row(i % 2), i + 1);
        }
        return x;
    }

    private static void codes() {
        due.says("A CODE behind THE ROW: how many. OUTSIDE");
        OneKey x = new OneKey();
        due.is("row(0)", x.row(0), 1);
        due.is("row(99)", x.row(99), 2);
        for (int code = 44; code <= 50; code++) {
            due.is("row(" + code + ")", x.row(code), code - 41);
        }
        for (int code : NO_CODES) {
            fresh.same("row(" + code + ")", o -> o.row(code), OUTSIDE);
            busy.same("row(" + code + ")", o -> o.row(code), OUTSIDE);
        }
    }

    private static void twenty() {
        due.says("THE ROW has CODES, 20 at most");
        due.is("a nineteenth", withRow(18).row(1), 19);
        due.is("a twentieth", withRow(19).row(1), 20);
        full.same("a twenty-first", x -> x.row(0), OneKey.FULL);
        full.same("a twenty-first that could not be", x -> x.row(99), OneKey.FULL);
        OneKey x = withRow(20);
        x.row(0);
        due.is("count(6)", x.count(6), 20);
        x.burn();
        due.is("a first anew", x.row(0), 1);
    }

    private static void burning() {
        due.says("THE ROW is empty: how many it had.");
        for (int codes : new int[] {0, 1, 19, 20}) {
            OneKey x = withRow(codes);
            due.is("burn of " + codes, x.burn(), codes);
            due.is("count(6)", x.count(6), 0);
            due.is("burn of nothing", x.burn(), 0);
            due.is("judge of nothing", x.judge(), NONE);
        }
    }

    private static void judged() {
        due.says("JUDGED: which (from 0); NONE: all can be.");
        due.is("nothing", new OneKey().judge(), NONE);
        for (int codes = 0; codes <= 20; codes++) {
            due.is("all of " + codes, withRow(codes).judge(), NONE);
        }
        for (int at = 0; at < 20; at++) {
            OneKey x = withRow(at);
            x.row(53);
            for (int behind = at + 1; behind < 20; behind++) {
                x.row(behind % 3);
            }
            due.is("all but the one at " + at, x.judge(), at);
        }
        for (int code : new int[] {44, 49, 94, 99}) {
            OneKey x = new OneKey();
            x.row(code);
            due.is("code " + code + " can never be", x.judge(), 0);
        }
    }

    private static void judgedFromNow() {
        due.says("the first that can not be, from now on");
        OneKey x = withRow(2);
        due.is("as it is", x.judge(), NONE);
        x.keep(0);
        x.act(50);
        due.is("guard 1 has the key", x.judge(), 0);
        x.back(0);
        due.is("back", x.judge(), NONE);
        x.act(0);
        due.is("guard 0 has the key", x.judge(), 0);
        x.act(14);
        due.is("guard 0 and the key are in room 1", x.judge(), NONE);
    }

    private static void judgedOneByOne() {
        due.says("JUDGED: .. one by one");
        OneKey x = Due.told("plain 0 1 0;hungry 1;soap 1");
        int[] codes = {0, 52, 24, 53, 34, 84};
        int[] want = {NONE, NONE, NONE, NONE, NONE, 5};
        for (int i = 0; i < codes.length; i++) {
            x.row(codes[i]);
            due.is("judge of " + (i + 1), x.judge(), want[i]);
        }
        x.row(34);
        due.is("still the first", x.judge(), 5);
    }

    private static void judgingChangesNothing() {
        due.says("JUDGED: the first that can not be");
        fresh.same("judge()", x -> x.judge(), NONE);
        busy.same("judge()", x -> x.judge(), 1);
        full.same("judge()", x -> x.judge(), NONE);
    }

    private static void firstRefusal() {
        due.says("UNKNOWN .., OUTSIDE .., NOT .., FULL: the first of these that fits");
        for (int code : NO_CODES) {
            full.same("row(" + code + ")", x -> x.row(code), OUTSIDE);
        }
    }
}
