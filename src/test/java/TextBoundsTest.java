/** THE TEXT of 'Terms' and promises 2 to 5: a test for each sentence that names a bound, at it and on both sides. */
public final class TextBoundsTest {
    private static final Due due = new Due("TextBoundsTest");
    private static final int NONE = OneKey.NONE;
    private static final Twins fresh = new Twins(due, OneKey::new);
    private static final Twins busy = new Twins(due, Twins::busy);
    private static final String[] DOORS = {"plain", "oneway", "two", "weighed", "sticking", "false"};
    /** Each form of a line, with numbers that are right in a gaol as at first. */
    private static final String[] LINES = {"gaol 2", "plain 0 1 0", "oneway 0 1 0", "two 0 1 0", "weighed 0 1 0",
        "sticking 0 1 0", "false 0 1 0", "kitchen 1", "hungry 1", "soap 1", "key 1", "guard 1 1"};

    public static void main(String[] args) {
        bytesOfACall();
        placesOfBytes();
        bytesOfTheText();
        erasing();
        linesOfTheText();
        semicolonsBetween();
        formsOfLines();
        endsTooSoon();
        pointsAreNotWritten();
        roomsOfAGaol();
        allElseAsAtFirst();
        roomsOfADoor();
        anotherRoom();
        wickets();
        elevenDoors();
        kitchens();
        fiveHungry();
        hungryTwice();
        turns();
        keys();
        guards();
        roomsByLinesAhead();
        smallLetters();
        digits();
        blanks();
        tokens();
        firstOfFaults();
        order();
        behindTheLines();
        faultChangesNothing();
        gaolWithAFault();
        due.end();
    }

    private static void faultAt(String text, int want, String... ahead) {
        due.is("fault of \"" + text + "\"", Due.fault(text, ahead), want);
    }

    private static void bytesOfACall() {
        due.says("n (1 .. 8) bytes more of THE TEXT");
        for (int n = 1; n <= 8; n++) {
            due.is("write of " + n, new OneKey().write(-1L, n), n);
        }
        for (int n : new int[] {0, 9, -1, -8, 256, Integer.MIN_VALUE, Integer.MAX_VALUE}) {
            fresh.same("write(.., " + n + ")", x -> x.write(-1L, n), OneKey.OUTSIDE);
            busy.same("write(.., " + n + ")", x -> x.write(0x3531L, n), OneKey.OUTSIDE);
        }
    }

    private static void placesOfBytes() {
        due.says("byte i being bytes >> 8 i & 255");
        long line = Due.bytes("hungry 1", 0, 8);
        int[] faults = {0, 0, 0, 0, 0, 0, 6, 7};
        for (int i = 0; i < 8; i++) {
            OneKey x = new OneKey();
            x.write(line | 255L << 8 * i, 8);
            due.is("fault, byte " + i + " being 255", x.fault(), faults[i]);
        }
        for (int n = 1; n < 8; n++) {
            OneKey x = new OneKey();
            x.write(line | -1L << 8 * n, n);
            x.write(line >> 8 * n, 8 - n);
            due.is("fault, bytes from " + n + " on not being of the call", x.fault(), NONE);
        }
    }

    private static OneKey filled(int bytes) {
        OneKey x = new OneKey();
        Due.write(x, " ".repeat(bytes));
        return x;
    }

    private static void bytesOfTheText() {
        due.says("THE TEXT is a row of bytes, 200 at most");
        for (int n = 1; n <= 8; n++) {
            int most = n;
            due.is("to 199 by " + n, filled(199 - n).write(-1L, n), 199);
            due.is("to 200 by " + n, filled(200 - n).write(-1L, n), 200);
            new Twins(due, () -> filled(201 - most)).same("to 201 by " + n, x -> x.write(-1L, most), OneKey.FULL);
            new Twins(due, () -> filled(200)).same("from 200 by " + n, x -> x.write(-1L, most), OneKey.FULL);
        }
        new Twins(due, () -> filled(200)).same("OUTSIDE ahead of FULL: 0", x -> x.write(-1L, 0), OneKey.OUTSIDE);
        new Twins(due, () -> filled(200)).same("OUTSIDE ahead of FULL: 9", x -> x.write(-1L, 9), OneKey.OUTSIDE);
        OneKey x = filled(195);
        due.is("too much", x.write(Due.bytes("key 1;", 0, 6), 6), OneKey.FULL);
        due.is("what fits", x.write(Due.bytes("key 1", 0, 5), 5), 200);
        due.is("a line up to the last byte", x.fault(), NONE);
        due.is("it is done", x.gaol(), 1);
        due.is("as told", x.count(4), 1);
    }

    private static void erasing() {
        due.says("THE TEXT is empty: how many bytes it had.");
        for (int bytes : new int[] {0, 1, 199, 200}) {
            OneKey x = filled(bytes);
            due.is("erase of " + bytes, x.erase(), bytes);
            due.is("bytes behind it", x.count(8), 0);
            due.is("erase of nothing", x.erase(), 0);
            due.is("fault of nothing", x.fault(), 0);
            due.is("written anew", Due.write(x, "key 1;hungry 0;soap 3"), 21);
            due.is("done anew", x.gaol(), 3);
        }
        OneKey full = filled(200);
        full.erase();
        due.is("200 anew", Due.write(full, "x".repeat(200)), 200);
    }

    private static void linesOfTheText() {
        due.says("LINES with ; (59) between, 10 at most");
        for (int lines = 1; lines <= 10; lines++) {
            String text = "soap 1;".repeat(lines - 1) + "key 1";
            faultAt(text, NONE);
            OneKey x = new OneKey();
            Due.write(x, text);
            due.is("gaol of " + lines + " lines", x.gaol(), lines);
        }
        String ten = "soap 1;".repeat(9) + "key 1";
        faultAt(ten + ";key 1", 68);
        faultAt(ten + " ; key 1", 69);
        faultAt(ten + ";", 68);
        faultAt(ten + ";;", 68);
        faultAt(ten + "  ", NONE);
        faultAt(ten + ";key 1".repeat(10), 68);
        faultAt("soap 1;".repeat(9) + "key 2;key 1", 67);
        faultAt("", 0);
    }

    private static void semicolonsBetween() {
        due.says("LINES with ; (59) between");
        faultAt(";", 0);
        faultAt(";key 1", 0);
        faultAt("key 1;", 6);
        faultAt("key 1; ", 7);
        faultAt("key 1;;key 1", 6);
        faultAt("key 1; ;key 1", 7);
        faultAt("key 1 key 1", 6);
        faultAt("key 1:key 1", 5);
        faultAt("key 1,key 1", 5);
        faultAt("key 1<key 1", 5);
        faultAt("key 1\nkey 1", 5);
        faultAt("key 1;key 1", NONE);
        faultAt("key;1", 3);
    }

    private static void formsOfLines() {
        due.says("each is one of: gaol N. plain A B W. (or oneway, two, weighed, sticking, false in place of plain) ..");
        for (String line : LINES) {
            String word = line.substring(0, line.indexOf(' '));
            faultAt(line, NONE);
            faultAt(line + " 1", line.length() + 1);
            faultAt(line + " key", line.length() + 1);
            faultAt(word + "s" + line.substring(word.length()), 0);
            faultAt(line.substring(1), 0);
            for (int length = 1; length < word.length(); length++) {
                faultAt(line.substring(0, length) + line.substring(word.length()), 0);
            }
            for (int at = 0; at < word.length(); at++) {
                char sign = line.charAt(at);
                String capital = line.substring(0, at) + (char) (sign - 32) + line.substring(at + 1);
                faultAt(capital, 0);
                faultAt(line.substring(0, at) + (sign == 'q' ? 'r' : 'q') + line.substring(at + 1), 0);
            }
        }
        faultAt("gaolgaol 2", 0);
        faultAt("gaol gaol 2", 5);
        faultAt("bribe 1", 0);
        faultAt("soap 1;bribe 1", 7);
    }

    private static void endsTooSoon() {
        due.says("or at the end, if it comes too soon");
        for (String line : LINES) {
            for (int at = line.indexOf(' '); at >= 0; at = line.indexOf(' ', at + 1)) {
                faultAt(line.substring(0, at), at);
                faultAt(line.substring(0, at) + "  ", at + 2);
                faultAt("soap 1;" + line.substring(0, at), 7 + at);
                faultAt(line.substring(0, at) + ";soap 1", at);
            }
        }
        faultAt("", 0);
        faultAt(" ", 1);
        faultAt(" ".repeat(200), 200);
        faultAt(" ".repeat(197) + "key", 200);
        faultAt(" ".repeat(194) + "key 1;", 200);
    }

    private static void pointsAreNotWritten() {
        due.says("As written here, without points");
        for (String line : LINES) {
            faultAt(line + ".", line.length());
            faultAt(line + ". soap 1", line.length());
            faultAt(line + ".;soap 1", line.length());
        }
    }

    private static void roomsOfAGaol() {
        due.says("ROOMS are 0 .. n less 1 (n 2 .. 6; 2 at first)");
        due.is("rooms at first", new OneKey().count(0), 2);
        for (int n = 0; n < 100; n++) {
            faultAt("gaol " + n, n >= 2 && n <= 6 ? NONE : 5);
        }
        for (int n = 2; n <= 6; n++) {
            due.is("rooms of gaol " + n, Due.told("gaol " + n).count(0), n);
            due.is("rooms of gaol 0" + n, Due.told("gaol 0" + n).count(0), n);
            due.is("rooms of gaol " + n + " behind gaol 6", Due.told("gaol 6", "gaol " + n).count(0), n);
        }
    }

    private static void allElseAsAtFirst() {
        due.says("gaol: N ROOMS, all else as at first");
        String[] all = {"gaol 6;plain 0 1 1;kitchen 5;hungry 4;hungry 2;soap 3;key 3;guard 0 2;guard 1 1",
            "gaol 6;plain 0 1 1;kitchen 5;hungry 4;hungry 2;soap 3;key 3;guard 0 2;guard 1 1;gaol 2", "gaol 2"};
        for (int how = 1; how < 3; how++) {
            OneKey x = Due.told(all[0], all[how]);
            for (int what = 0; what < 9; what++) {
                due.is("count(" + what + ")", x.count(what), what == 0 ? 2 : 0);
            }
            due.is("guards in the yard", x.room(0, 1), 3);
            due.is("the key in the yard", x.room(0, 2), 1);
            due.is("the kitchen in the yard", x.room(0, 3), 1);
            due.is("no door", x.door(0, 0), OneKey.UNKNOWN);
        }
    }

    private static void roomsOfADoor() {
        due.says("from a ROOM to another one");
        for (int n = 2; n <= 6; n++) {
            for (String word : DOORS) {
                int at = word.length() + 1;
                for (int a = 0; a <= n; a++) {
                    for (int b = 0; b <= n; b++) {
                        int want = a == n ? at : b == n || b == a ? at + 2 : NONE;
                        faultAt(word + " " + a + " " + b + " 1", want, "gaol " + n);
                    }
                }
                faultAt(word + " 99 0 0", at, "gaol " + n);
                faultAt(word + " 0 99 0", at + 2, "gaol " + n);
            }
        }
    }

    private static void anotherRoom() {
        due.says("B not A");
        for (String word : DOORS) {
            faultAt(word + " 0 0 0", word.length() + 3);
            faultAt(word + " 1 1 1", word.length() + 3);
            faultAt(word + " 1 01 1", word.length() + 3);
            faultAt(word + " 00 0 1", word.length() + 4);
            faultAt(word + " 1 1", word.length() + 3);
            faultAt(word + " 1 1 7", word.length() + 3);
        }
    }

    private static void wickets() {
        due.says("W 0 or 1");
        for (String word : DOORS) {
            for (int w = 0; w < 100; w++) {
                faultAt(word + " 0 1 " + w, w < 2 ? NONE : word.length() + 5);
            }
            due.is("without a wicket", Due.told(word + " 0 1 0").door(0, 3), 0);
            due.is("with a wicket", Due.told(word + " 0 1 1").door(0, 3), 1);
            due.is("with a wicket told as 01", Due.told(word + " 0 1 01").door(0, 3), 1);
        }
    }

    private static void elevenDoors() {
        due.says("an eleventh cannot stand there, at its word");
        String nine = "plain 0 1 0;".repeat(8) + "two 0 1 0";
        due.is("nine doors", Due.told(nine).count(1), 9);
        for (String word : DOORS) {
            due.is("ten doors", Due.told(nine, word + " 0 1 0").count(1), 10);
            faultAt("soap 1;" + word + " 0 1 0", NONE, nine);
            faultAt(word + " 0 1 0", 0, nine, "false 0 1 0");
            faultAt(word, 0, nine, "false 0 1 0");
            faultAt(word + " 9 9 9", 0, nine, "false 0 1 0");
            faultAt("  " + word + " 0 1 0", 2, nine, "false 0 1 0");
            faultAt("false 1 0 1;" + word + " 0 1 0", 12, nine);
            faultAt("gaol 2;" + word + " 0 1 0", NONE, nine, "false 0 1 0");
            faultAt("soap 1;soap 1;" + word + " 0 1 0", 14, nine, "false 0 1 0");
        }
        String ten = "plain 0 1 0;".repeat(9) + "two 0 1 0";
        due.is("ten doors by one text", Due.told(ten).count(1), 10);
        new Twins(due, () -> {
            OneKey x = Due.told(ten);
            Due.write(x, "key 1;plain 0 1 0");
            return x;
        }).same("gaol with an eleventh door", x -> x.gaol(), OneKey.NOT);
    }

    private static void kitchens() {
        due.says("The KITCHEN is a ROOM (0 at first)");
        due.is("at first", new OneKey().room(0, 3), 1);
        for (int n = 2; n <= 6; n++) {
            for (int room = 0; room < n; room++) {
                OneKey x = Due.told("gaol " + n, "kitchen " + room);
                for (int other = 0; other < n; other++) {
                    due.is("room(" + other + ", 3), kitchen " + room, x.room(other, 3), other == room ? 1 : 0);
                }
            }
            faultAt("kitchen " + n, 8, "gaol " + n);
            faultAt("kitchen 99", 8, "gaol " + n);
        }
    }

    private static void fiveHungry() {
        due.says("hungry: one more; a fifth, .. cannot stand there, at its R");
        due.is("none at first", new OneKey().count(2), 0);
        String text = "gaol 6";
        for (int room = 0; room < 4; room++) {
            text += ";hungry " + (5 - room);
            due.is("hungry are " + (room + 1), Integer.bitCount(Due.told(text).count(2)), room + 1);
        }
        faultAt(text + ";hungry 0", 50);
        faultAt(text + ";hungry 1;soap 9", 50);
        faultAt(text + ";hungry", 49);
        faultAt(text + ";hungry x", 50);
        faultAt("hungry 0", 7, text);
        faultAt("hungry  01", 8, text);
        faultAt("gaol 6;hungry 0", NONE, text);
        for (int n = 2; n <= 6; n++) {
            faultAt("hungry " + (n - 1), NONE, "gaol " + n);
            faultAt("hungry " + n, 7, "gaol " + n);
            faultAt("hungry 99", 7, "gaol " + n);
        }
        String four = text;
        new Twins(due, () -> {
            OneKey x = Due.told(four);
            Due.write(x, "key 1;hungry 1");
            return x;
        }).same("gaol with a fifth", x -> x.gaol(), OneKey.NOT);
    }

    private static void hungryTwice() {
        due.says("one that is told, cannot stand there, at its R");
        faultAt("hungry 1;hungry 1", 16);
        faultAt("hungry 1;hungry 01", 16);
        faultAt("hungry 1;hungry 0", NONE);
        faultAt("hungry 0;gaol 2;hungry 0", NONE);
        faultAt("hungry 1", 7, "hungry 1");
        faultAt("hungry 1", NONE, "hungry 1", "gaol 2");
        OneKey fed = Due.told("hungry 0");
        fed.act(2);
        fed.act(3);
        due.is("it is fed", fed.count(2), 0);
        Due.write(fed, "hungry 0");
        due.is("fault: it is told all the same", fed.fault(), 7);
        due.is("gaol", fed.gaol(), OneKey.NOT);
        fed.erase();
        Due.write(fed, "soap 0");
        due.is("gaol", fed.gaol(), 1);
        due.is("HUNGRY ones are all HUNGRY", fed.count(2), 1);
    }

    private static void turns() {
        due.says("SOAP has 0 .. 3 TURNS (0 at first)");
        due.is("at first", new OneKey().count(3), 0);
        for (int turns = 0; turns < 100; turns++) {
            faultAt("soap " + turns, turns <= 3 ? NONE : 5);
        }
        for (int turns = 0; turns <= 3; turns++) {
            due.is("turns of soap " + turns, Due.told("soap 1", "soap " + turns).count(3), turns);
        }
    }

    private static void keys() {
        due.says("THE KEY hangs in a ROOM (0 at first)");
        due.is("at first", new OneKey().count(4), 0);
        for (int n = 2; n <= 6; n++) {
            for (int room = 0; room < n; room++) {
                due.is("key " + room, Due.told("gaol " + n, "key " + room).count(4), room);
            }
            faultAt("key " + n, 4, "gaol " + n);
            faultAt("key 99", 4, "gaol " + n);
        }
    }

    private static void guards() {
        due.says("GUARDS are 0 and 1, each in a ROOM (0 at first)");
        for (int guard = 0; guard < 2; guard++) {
            due.is("at first", new OneKey().guard(guard, 0), 0);
            for (int n = 2; n <= 6; n++) {
                for (int room = 0; room < n; room++) {
                    OneKey x = Due.told("gaol " + n, "guard " + guard + " " + room);
                    due.is("guard " + guard, x.guard(guard, 0), room);
                    due.is("guard " + (1 - guard), x.guard(1 - guard, 0), 0);
                }
                faultAt("guard " + guard + " " + n, 8, "gaol " + n);
                faultAt("guard " + guard + " 99", 8, "gaol " + n);
            }
        }
        for (int guard = 2; guard < 100; guard++) {
            faultAt("guard " + guard + " 0", 6);
        }
        faultAt("guard 2", 6);
        faultAt("guard 2 9", 6);
    }

    private static void roomsByLinesAhead() {
        due.says("ROOMS that there are behind the LINES ahead");
        String[] lines = {"plain # 0 0", "plain 0 # 0", "kitchen #", "hungry #", "key #", "guard 1 #"};
        for (String line : lines) {
            int at = line.indexOf('#');
            for (int n = 2; n <= 6; n++) {
                String last = line.replace('#', (char) ('0' + n - 1));
                String over = line.replace('#', (char) ('0' + n));
                faultAt("gaol " + n + ";" + last, NONE);
                faultAt("gaol " + n + ";" + over, 7 + at);
                faultAt("gaol 6;gaol " + n + ";" + over, 14 + at);
                faultAt("gaol 2;gaol " + n + ";" + last, NONE);
                faultAt(over + ";gaol 6", at, "gaol " + n);
                faultAt(last + ";gaol 2", NONE, "gaol " + n);
                if (n < 6) {
                    faultAt("gaol " + (n + 1) + ";" + over, NONE, "gaol " + n);
                }
            }
        }
    }

    private static boolean isLetter(int sign) {
        return sign >= 97 && sign <= 122;
    }

    private static boolean isDigit(int sign) {
        return sign >= 48 && sign <= 57;
    }

    private static void smallLetters() {
        due.says("small letters a .. z");
        for (int sign = 0; sign < 256; sign++) {
            String put = String.valueOf((char) sign);
            // One more sign behind the word: a letter makes it another word, any other sign begins the next token.
            int behindWord = isLetter(sign) ? 0 : sign == 32 || sign == 48 ? NONE : 3;
            faultAt("key" + put + "0", behindWord);
            faultAt(put, sign == 32 ? 1 : 0);
            faultAt(put + "key 0", sign == 32 ? NONE : 0);
            faultAt("k" + put + "ey 0", 0);
        }
    }

    private static void digits() {
        due.says("numbers of 1 or 2 digits");
        for (String line : LINES) {
            for (int at = 0; at < line.length(); at++) {
                if (isDigit(line.charAt(at))) {
                    String ahead = line.substring(0, at);
                    String from = line.substring(at);
                    faultAt(ahead + "0" + from, NONE);
                    faultAt(ahead + "00" + from, at);
                    faultAt(ahead + "0".repeat(150) + from, at);
                    faultAt(ahead + ";" + line.substring(at + 1), at);
                    faultAt(ahead + "-" + from, at);
                    faultAt(ahead + "+" + from, at);
                    faultAt(ahead + "x" + line.substring(at + 1), at);
                }
            }
        }
        for (int sign = 0; sign < 256; sign++) {
            // A sign more behind a number: a digit makes it another number, any other sign begins the next token.
            boolean stands = sign == 32 || sign == 48 || sign == 49;
            int want = stands ? NONE : sign == 59 ? 6 : isDigit(sign) ? 4 : 5;
            faultAt("key 0" + (char) sign, want);
        }
        faultAt("soap 4294967297", 5);
        faultAt("soap 18446744073709551617", 5);
        faultAt("soap 257", 5);
    }

    private static void blanks() {
        due.says("blanks (32) between");
        faultAt("plain0 1 0;kitchen1;hungry1;soap1;key1;guard1 1;gaol2", NONE);
        faultAt("plain 0 1 0;kitchen 1;hungry 1;soap 1;key 1;guard 1 1;gaol 2", NONE);
        faultAt("  plain  0   1  0  ;  kitchen  1 ; key 1  ", NONE);
        faultAt("plain 01 0", 10);
        faultAt("plain 0 10", 8);
        faultAt("guard 11", 6);
        faultAt("pl ain 0 1 0", 0);
        faultAt("soap 0 1", 7);
        faultAt("soap" + " ".repeat(195) + "1", NONE);
        for (int sign : new int[] {0, 9, 10, 13, 31, 33, 160, 255}) {
            faultAt("soap" + (char) sign + "1", 4);
            faultAt("soap 1" + (char) sign, 6);
            faultAt((char) sign + "soap 1", 0);
        }
    }

    private static void tokens() {
        due.says("TOKEN (a row of small letters, a row of digits, any other byte)");
        faultAt("soap abc", 5);
        faultAt("soap   abc", 7);
        faultAt("soap 123", 5);
        faultAt("soap ...", 5);
        faultAt("soap 1...", 6);
        faultAt("soap 1abc", 6);
        faultAt("soap 1 234", 7);
        faultAt("soap1soap1", 5);
        faultAt("soap 1;abc123", 7);
        faultAt("soap 1;123abc", 7);
        faultAt("soap 1;  .abc", 9);
        faultAt("12soap 1", 0);
        faultAt("soap12", 4);
        faultAt("plain 0 1x0", 9);
    }

    private static void firstOfFaults() {
        due.says("A FAULT is at the first TOKEN .. that cannot stand there");
        faultAt("gaol 7;soap 4;bribe", 5);
        faultAt("gaol 6;soap 4;bribe", 12);
        faultAt("gaol 6;soap 3;bribe", 14);
        faultAt("gaol 6;soap 3;key 6", 18);
        faultAt("gaol 6;soap 3;key 5", NONE);
        faultAt("plain 2 2 2", 6);
        faultAt("plain 1 2 2", 8);
        faultAt("plain 1 0 2", 10);
        faultAt("plain 1 0 1", NONE);
    }

    private static void order() {
        due.says("LINES are done in their order");
        OneKey x = Due.told("gaol 4;soap 1;soap 3;soap 2;key 3;key 1;kitchen 2;kitchen 3;guard 1 3;guard 1 2");
        due.is("turns", x.count(3), 2);
        due.is("key", x.count(4), 1);
        due.is("kitchen", x.room(3, 3), 1);
        due.is("no kitchen any more", x.room(2, 3), 0);
        due.is("guard 1", x.guard(1, 0), 2);
        OneKey doors = Due.told("plain 0 1 1;gaol 3;two 2 1 0;false 0 2 1");
        due.is("doors behind gaol", doors.count(1), 2);
        due.is("the first of them", doors.door(0, 2), 2);
        due.is("the second of them", doors.door(1, 2), 5);
    }

    private static void behindTheLines() {
        due.says("Behind them all is as told .., it is MINUTE 0, no ROW, nothing HEARD is told, nothing is kept");
        OneKey x = Twins.busy();
        x.erase();
        Due.write(x, "soap 2");
        due.is("gaol", x.gaol(), 1);
        long[] counts = {6, 8, 6, 2, 0, 0, 0, 0, 0};
        for (int what = 0; what < counts.length; what++) {
            due.is("count(" + what + ")", x.count(what), counts[what]);
        }
        due.is("guard 0", x.guard(0, 0), 0);
        due.is("guard 1", x.guard(1, 0), 1);
        due.is("guard 0 has nothing", x.guard(0, 1), 0);
        due.is("guard 1 has nothing", x.guard(1, 1), 0);
        due.is("kept in 0", x.back(0), OneKey.NOT);
        due.is("kept in 1", x.back(1), OneKey.NOT);
        due.is("the row", x.judge(), NONE);
        due.is("burn", x.burn(), 0);
        due.is("forget", x.forget(), 0);
    }

    private static void faultChangesNothing() {
        due.says("The place of the FAULT (the byte with which the TOKEN begins, or the length); NONE.");
        fresh.same("fault of nothing", x -> x.fault(), 0);
        busy.same("fault", x -> x.fault(), 6);
        Twins whole = new Twins(due, () -> {
            OneKey x = Twins.busy();
            Due.write(x, "gry 5;gaol 2");
            return x;
        });
        whole.same("fault of a whole text", x -> x.fault(), NONE);
    }

    private static void gaolWithAFault() {
        due.says("NOT: it has a FAULT");
        fresh.same("gaol of nothing", x -> x.gaol(), OneKey.NOT);
        busy.same("gaol of a text with a fault", x -> x.gaol(), OneKey.NOT);
        for (String text : new String[] {"gaol 3;kitchen 2;hungry 1;soap 3;key 2;guard 0 2;guard 1 1;false 2 1 1;", "gaol 2;x",
            "kitchen 2;gaol 7", "hungry 5;gaol 1", "soap 3;soap 4", "key 3;key 6", "guard 1 5;guard 2 0", "soap 1;".repeat(10)}) {
            new Twins(due, () -> {
                OneKey x = Twins.busy();
                x.erase();
                Due.write(x, text);
                return x;
            }).same("gaol of " + text, x -> x.gaol(), OneKey.NOT);
        }
        OneKey refused = new OneKey();
        Due.write(refused, "gaol 6;plain 0 5 1;kitchen 4;hungry 3;key 2;guard 0 1;guard 1 2;bribe");
        due.is("gaol of a faulty text", refused.gaol(), OneKey.NOT);
        refused.erase();
        Due.write(refused, "soap 1");
        due.is("gaol of another text", refused.gaol(), 1);
        long[] counts = {2, 0, 0, 1, 0, 0, 0, 0, 0};
        for (int what = 0; what < counts.length; what++) {
            due.is("nothing of the faulty text is told: count(" + what + ")", refused.count(what), counts[what]);
        }
        due.is("the kitchen is in the yard", refused.room(0, 3), 1);
        due.is("the guards are in the yard", refused.room(0, 1), 3);
        OneKey x = Twins.busy();
        Due.write(x, "gry 5");
        due.is("fault of the whole text", x.fault(), NONE);
        due.is("gaol of the whole text", x.gaol(), 2);
        due.is("the key", x.count(4), 5);
        due.is("THE TEXT is empty then", x.count(8), 0);
        due.is("gaol again", x.gaol(), OneKey.NOT);
        due.is("erase then", x.erase(), 0);
    }
}
