/** Promises 16 to 18: row, burn, judge. */
public final class RowsTest {
    private static final Due due = new Due("RowsTest");

    public static void main(String[] args) {
        rows();
        judged();
        due.end();
    }

    private static void rows() {
        OneKey x = new OneKey();
        due.is("row(-1)", x.row(-1), OneKey.OUTSIDE);
        due.is("row(100)", x.row(100), OneKey.OUTSIDE);
        due.is("burn nothing", x.burn(), 0);
        for (int i = 1; i <= 20; i++) {
            due.is("row", x.row(i == 20 ? 99 : 44), i);
        }
        due.is("a code too many", x.row(0), OneKey.FULL);
        due.is("outside ahead of full", x.row(100), OneKey.OUTSIDE);
        due.is("twenty", x.count(6), 20);
        due.is("burn", x.burn(), 20);
        due.is("burnt", x.count(6), 0);
        due.is("burnt: judge", x.judge(), OneKey.NONE);
        due.is("row anew", x.row(0), 1);
    }

    private static void judged() {
        OneKey x = Due.told("plain 0 1 0;hungry 1;soap 1");
        int[] codes = {0, 52, 24, 53, 0, 14};
        for (int code : codes) {
            x.row(code);
        }
        due.is("all can be", x.judge(), OneKey.NONE);
        due.is("nothing changes", x.count(5), 0);
        due.is("nothing changes: hungry", x.count(2), 2);
        x.row(53);
        due.is("the last can't", x.judge(), 6);
        x.row(84);
        due.is("still the first that can't", x.judge(), 6);
        x.act(50);
        due.is("from now on", x.judge(), 0);
        due.is("the row is there", x.count(6), 8);
        x.act(51);
        due.is("as it was", x.judge(), 6);
        OneKey stuck = new OneKey();
        stuck.row(49);
        due.is("no such act", stuck.judge(), 0);
        OneKey rooms = Due.told("plain 0 1 0;hungry 1");
        rooms.row(2);
        rooms.row(54);
        rooms.row(3);
        due.is("no wicket", rooms.judge(), 1);
        Due.write(rooms, "key 1");
        rooms.gaol();
        due.is("a text empties the row", rooms.judge(), OneKey.NONE);
    }
}
