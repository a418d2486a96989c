/** The sentences on THE TAPE and TEXT that name a boundary case. */
public final class TextEdgesTest {
    public static void main(String[] args) {
        lowestFirst();
        tapeIsFull();
        usedUp();
        emptyTexts();
        byItAlone();
        noRowsThen();
        numbersInRange();
        digits();
        asLongAsTheyGo();
        otherNames();
        blanks();
        eachByte();
        untold();
        inOrder();
        ninth();
        endsTooSoon();
        firstFault();
        Answers.end();
    }

    private static int church(String text) {
        return Answers.feed(new BoundGodmothers(), text).church();
    }

    private static void fault(String text, int place) {
        Answers.due("church() of '" + text + "'", church(text), -100 - place);
    }

    private static void lowestFirst() {
        Answers.sentence("promise 2", "n bytes (1 to 8) come to THE TAPE, the lowest of eight first: how many it has");
        String text = "easy 7; ";
        for (int n = 1; n <= 8; n++) {
            BoundGodmothers x = new BoundGodmothers();
            int fed = 0;
            for (int i = 0; i < 8; i += n) {
                // the bytes above n don't come to it
                long eight = -1L;
                int many = Math.min(n, 8 - i);
                for (int k = 0; k < many; k++) eight = eight & ~(255L << 8 * k) | (long) text.charAt(i + k) << 8 * k;
                fed += many;
                Answers.due("feed by " + n, x.feed(eight, many), fed);
            }
            Answers.due("church() fed by " + n, x.church(), 0);
            Answers.due("EASY ones fed by " + n, x.state(4), 128);
        }
    }

    private static void tapeIsFull() {
        Answers.sentence("section 2", "THE TAPE takes bytes, 200 at most");
        BoundGodmothers x = Answers.feed(new BoundGodmothers(), " ".repeat(193) + "easy 3;");
        Answers.due("bytes", x.many(5), 200);
        Answers.due("one more", x.feed(' ', 1), Answers.FULL);
        Answers.due("eight more", x.feed(0, 8), Answers.FULL);
        Answers.due("church()", x.church(), 0);
        Answers.due("EASY ones", x.state(4), 8);
        Answers.due("one more behind church()", x.feed(' ', 1), 1);
        x = Answers.feed(new BoundGodmothers(), " ".repeat(193) + "easy 3");
        Answers.due("two more to 199", x.feed(';' | ' ' << 8, 2), Answers.FULL);
        Answers.due("bytes", x.many(5), 199);
        Answers.due("one more to 199", x.feed(';' | ' ' << 8, 1), 200);
        Answers.due("church()", x.church(), 0);
        x = Answers.feed(new BoundGodmothers(), " ".repeat(194) + "easy 3");
        Answers.due("church() of 200 that wants more", x.church(), -300);
    }

    private static void usedUp() {
        Answers.sentence("section 2", "church() uses it up");
        BoundGodmothers x = Answers.told("easy 3;");
        Answers.due("bytes", x.many(5), 0);
        Answers.feed(x, "easy 3");
        Answers.due("church() with a FAULT", x.church(), -106);
        Answers.due("bytes behind a FAULT", x.many(5), 0);
        Answers.due("EASY ones behind a FAULT", x.state(4), 8);
        Answers.feed(x, ";");
        Answers.due("church() of what came behind it", x.church(), -100);
        Answers.due("church() of nothing", x.church(), 0);
        Answers.due("EASY ones behind nothing", x.state(4), 0);
        // bytes of a longer one that is used up are not behind the end of the next
        for (char used : new char[] {' ', ';', '0', 'a'}) {
            for (String begun : new String[] {"slum", "slum 3", "slum 3;", "", " "}) {
                x = Answers.feed(new BoundGodmothers(), ("" + used).repeat(200));
                x.church();
                Answers.feed(x, begun);
                boolean isWhole = begun.endsWith(";") || begun.trim().isEmpty();
                Answers.due("church() of '" + begun + "' behind 200 of '" + used + "'", x.church(), isWhole ? 0 : -100 - begun.length());
            }
        }
    }

    private static void emptyTexts() {
        Answers.sentence("section 2", "TEXT: { .. }: none at all");
        BoundGodmothers x = Answers.few();
        x.again();
        Answers.feed(x, "?");
        Answers.due("church() with a FAULT", x.church(), -116);
        Answers.due("church() of nothing", x.church(), 0);
        Answers.due("CHILDREN", x.many(0), 0);
        Answers.due("ROOM", x.lawOf(2), 9);
        for (int n = 1; n <= 200; n += 199) Answers.due("church() of " + n + " blanks", church(" ".repeat(n)), 0);
    }

    private static void byItAlone() {
        Answers.sentence("section 2", "It is all by it alone (what it doesn't tell is as at first); z stays");
        BoundGodmothers x = new BoundGodmothers();
        for (int law = 0; law < 4; law++) x.set(law, 0);
        for (int i = 0; i < 8; i++) {
            x.vice(i, i);
            x.easy(i, 1);
            x.child(5, 1, 1, i);
            x.change(i, 3, 1);
            x.change(i, 4, 1);
        }
        x.years(3);
        x.seed(-5);
        x.keep();
        Answers.feed(x, "urchin to 6;");
        Answers.due("church()", x.church(), 1);
        int[] laws = {2, 1, 9, 20};
        for (int law = 0; law < 4; law++) Answers.due("LAW " + law, x.lawOf(law), laws[law]);
        int[] one = {2, 50, 5, 50, 0, 6};
        for (int what = 0; what < 6; what++) Answers.due("of(0, " + what + ")", x.of(0, what), one[what]);
        Answers.due("a second", x.of(1, 0), Answers.BAD);
        int[] states = {0, 50, 0, 0, 0, 400};
        for (int what = 0; what < 6; what++) Answers.due("state(" + what + ")", x.state(what), states[what]);
        Answers.due("z", x.seed(0), -5);
        Answers.due("what is kept stays", x.again(), 8);
        Answers.due("YEAR of what is kept", x.state(0), 3);
        Answers.due("z of what is kept", x.seed(0), -5);
    }

    private static void noRowsThen() {
        Answers.sentence("promise 3", "There are no ROWS then");
        BoundGodmothers x = Answers.told("child to 0;");
        x.prove(0, 10);
        Answers.feed(x, "child to 0;");
        Answers.due("church()", x.church(), 1);
        Answers.due("ROWS", x.many(4), 0);
        Answers.due("row(0, 0)", x.row(0, 0), -9);
        Answers.due("alterRow(0, 0, 1)", x.alterRow(0, 0, 1), -9);
        Answers.due("judge(0)", x.judge(0), 0);
    }

    private static void numbersInRange() {
        Answers.sentence("section 2", "FAULT: a NUMBER out of range");
        String[] texts = {"child to # ;7", "child to 0 trait # ;99", "child to 0 fire # ;9", "child to 0 wish # ;99",
            "child to 0 age # ;99", "vice # is 0;7", "vice 7 is # ;99", "easy # ;7", "piety # ;9", "slum # ;9", "room # ;99",
            "slip # ;99"};
        for (String told : texts) {
            int at = told.lastIndexOf(';');
            String text = told.substring(0, at) + ";";
            int most = Integer.parseInt(told.substring(at + 1));
            int children = text.startsWith("child") ? 1 : 0;
            for (int v : new int[] {0, 1, most - 1, most}) {
                Answers.due("church() with " + v + " of " + text, church(text.replace("#", "" + v)), children);
            }
            for (int v : new int[] {most + 1, 100, 255, 256, 999}) fault(text.replace("#", "" + v), text.indexOf('#'));
        }
    }

    private static void digits() {
        Answers.sentence("section 2", "NUMBERS rows of digits (1 to 3); FAULT: of more digits");
        for (String number : new String[] {"7", "07", "007"}) Answers.due("slum " + number, church("slum " + number + ";"), 0);
        for (String number : new String[] {"0007", "0000", "00000000007", "4294967296", "4294967303", "18446744073709551623"}) {
            fault("slum " + number + ";", 5);
            fault("vice 1 is " + number + ";", 10);
        }
        fault("slum " + "0".repeat(194) + ";", 5);
        BoundGodmothers x = Answers.told("child to 007 trait 099 fire 009 wish 010 age 001;");
        int[] one = {0, 99, 9, 10, 1, 7};
        for (int what = 0; what < 6; what++) Answers.due("of(0, " + what + ")", x.of(0, what), one[what]);
    }

    private static void asLongAsTheyGo() {
        Answers.sentence("section 2", "NAMES are rows of letters a to z, NUMBERS rows of digits, both as long as they go");
        fault("childto 0;", 0);
        fault("child to 0 traitfire 5;", 11);
        fault("slums 1;", 0);
        fault("slu 1;", 0);
        fault("s 1;", 0);
        fault("slum 1 0;", 7);
        fault("sl um 1;", 0);
        fault("vice 1 i s 1;", 7);
        fault("easy 1easy 2;", 6);
        Answers.due("a NUMBER right behind a NAME", church("slum1;vice1is2;twin to1trait2fire3wish4age5;"), 1);
    }

    /** Each NAME of a text that is right with each of its letters changed, left out, and said twice. */
    private static void otherNames() {
        Answers.sentence("section 2", "FAULT: the first NAME that can't stand there");
        for (String kind : new String[] {"child", "heir", "urchin", "curate", "reformer", "twin"}) {
            otherNamesIn(kind + " to 0 trait 1 fire 2 wish 3 age 4;");
        }
        for (String law : new String[] {"piety", "slum", "room", "slip"}) otherNamesIn(law + " 1;");
        otherNamesIn("vice 1 is 2;");
        otherNamesIn("easy 1;");
        fault("child 1;", 6);
        fault("vice 7 10;", 7);
        fault("child to 1 trait;", 16);
        fault("vice to 1;", 5);
        fault("child is 1;", 6);
    }

    private static void otherNamesIn(String text) {
        for (int i = 0; i < text.length(); i++) {
            char sign = text.charAt(i);
            if (!Character.isLetter(sign)) continue;
            int begin = i;
            while (begin > 0 && Character.isLetter(text.charAt(begin - 1))) begin--;
            String before = text.substring(0, i);
            String behind = text.substring(i + 1);
            fault(before + (sign == 'z' ? 'y' : (char) (sign + 1)) + behind, begin);
            fault(before + behind, begin);
            fault(before + sign + sign + behind, begin);
            fault(before + Character.toUpperCase(sign) + behind, begin);
        }
    }

    private static void blanks() {
        Answers.sentence("section 2", "blanks (32) part them, and stand elsewhere as one likes");
        Answers.due("none but those that part", church("vice 1 is 2;easy 3;child to 4 trait 5 fire 6 wish 7 age 8;"), 1);
        Answers.due("many", church("  vice   1  is  2  ;  easy  3  ;   child  to  4  trait  5  fire  6  wish  7  age  8  ;  "), 1);
        fault("   ;", 3);
        fault("slum   ", 7);
    }

    /** In the place of # each of the 256 bytes. */
    private static void eachByte() {
        Answers.sentence("section 2", "FAULT: the first other byte that can't stand there");
        for (int sign = 0; sign < 256; sign++) {
            boolean isLetter = sign >= 'a' && sign <= 'z';
            boolean isDigit = sign >= '0' && sign <= '9';
            int behindNumber = sign == ' ' ? 0 : isDigit ? -105 : sign == ';' ? -107 : -106;
            Answers.due("byte " + sign + " behind a NUMBER", church("slum 3" + (char) sign + ";"), behindNumber);
            int behindName = sign == ' ' || isDigit ? 0 : isLetter ? -100 : -104;
            Answers.due("byte " + sign + " behind a NAME", church("slum" + (char) sign + (isDigit ? ";" : "3;")), behindName);
            int alone = sign == ' ' ? 0 : -100;
            Answers.due("byte " + sign + " alone", church("" + (char) sign), alone);
            int atTheEnd = sign == ' ' ? 0 : -107;
            Answers.due("byte " + sign + " behind a statement", church("slum 3;" + (char) sign), atTheEnd);
        }
    }

    private static void untold() {
        Answers.sentence("section 2", "TRAIT (50 without), FIRE (5 without), WISH (50 without), AGE (0 without)");
        int[] without = {50, 5, 50, 0};
        int[] with = {0, 0, 0, 99};
        String[] names = {"trait", "fire", "wish", "age"};
        for (int set = 0; set < 16; set++) {
            StringBuilder text = new StringBuilder("twin to 2");
            for (int i = 0; i < 4; i++) if ((set >> i & 1) == 1) text.append(' ').append(names[i]).append(' ').append(with[i]);
            BoundGodmothers x = Answers.told(text + ";");
            for (int i = 0; i < 4; i++) {
                Answers.due(names[i] + " of '" + text + "'", x.of(0, i + 1), (set >> i & 1) == 1 ? with[i] : without[i]);
            }
        }
    }

    private static void inOrder() {
        Answers.sentence("section 2", "[ trait N ] [ fire N ] [ wish N ] [ age N ]: each once at most, in this order");
        String[] names = {"trait", "fire", "wish", "age"};
        for (int i = 0; i < 4; i++) {
            for (int k = 0; k < 4; k++) {
                String text = "child to 0 " + names[i] + " 1 " + names[k] + " 2;";
                if (i < k) Answers.due("church() of " + text, church(text), 1);
                else fault(text, 14 + names[i].length());
            }
        }
        Answers.due("a LAW told twice", Answers.told("slum 3;slum 4;").lawOf(1), 4);
        Answers.due("a VICE told twice", Answers.told("vice 3 is 3;vice 3 is 4;").godmother(3, 0), 4);
        Answers.due("EASY told twice", Answers.told("easy 3;easy 3;").state(4), 8);
    }

    private static void ninth() {
        Answers.sentence("section 2", "FAULT: the NAME of a ninth one");
        for (String kind : new String[] {"child", "heir", "urchin", "curate", "reformer", "twin"}) {
            Answers.due("eight", church("twin to 0;".repeat(7) + kind + " to 0;"), 8);
            fault("twin to 0;".repeat(8) + " " + kind + " to 0;", 81);
            fault("twin to 0;".repeat(8) + kind, 80);
        }
        Answers.due("eight and a LAW", church("twin to 0;".repeat(8) + "slum 3;"), 8);
        BoundGodmothers x = Answers.feed(Answers.told("child to 3;"), "twin to 0;".repeat(9));
        Answers.due("church() of nine", x.church(), -180);
        Answers.due("CHILDREN are as they were", x.many(0), 1);
        Answers.due("SWORN as it was", x.of(0, 5), 3);
    }

    /** Each beginning of a text: a NAME that is cut is the FAULT, else the end, unless a statement has just ended. */
    private static void endsTooSoon() {
        Answers.sentence("section 2", "FAULT: or the end (how many bytes there are), if more must come");
        String text = "curate to 7 trait 12 fire 3 wish 45 age 6 ; vice 3 is 77 ; easy 2 ; room 5 ;";
        for (int n = 0; n <= text.length(); n++) {
            String begun = text.substring(0, n);
            int token = n;
            while (token > 0 && Character.isLetter(text.charAt(token - 1))) token--;
            boolean isCut = token < n && n < text.length() && Character.isLetter(text.charAt(n));
            boolean isWhole = begun.trim().isEmpty() || begun.trim().endsWith(";");
            int want = isWhole ? (n < 43 ? 0 : 1) : isCut ? -100 - token : -100 - n;
            Answers.due("church() of '" + begun + "'", church(begun), want);
        }
    }

    private static void firstFault() {
        Answers.sentence("section 2", "FAULT: the place (from 0) of the first");
        fault("? ?", 0);
        fault("slum 10; slum 11;", 5);
        fault("slum 1; slum 11; slum 12;", 13);
        fault("child to 8 trait 100;", 9);
        fault("child to 1 trait 100 fire 10;", 17);
        fault("child 8;", 6);
        fault("vice 8 is 100;", 5);
        fault("vice 8 as 100;", 5);
        fault("vice is 8;", 5);
        fault("easy;", 4);
        fault(";", 0);
        fault("7;", 0);
        fault("to 7;", 0);
        fault("is 7;", 0);
        fault("trait 7;", 0);
        fault(" ".repeat(199) + "?", 199);
    }
}
