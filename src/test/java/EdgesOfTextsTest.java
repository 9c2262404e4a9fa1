/** The bounds of the tape, TOKENS, WALLS and ROUNDS (Terms 1 and 4; promises 9 to 12), on both sides. */
public final class EdgesOfTextsTest {
    private static final String OATH = "oath 7 from 1;";
    private static final String NINE = OATH + "course 9;";

    public static void main(String[] args) {
        tapeOf900();
        wallOf900();
        roundOf300();
        nothingAtAll();
        firstBytesAlone();
        everyByte();
        everyByteInWords();
        blanks();
        numbersOf4Digits();
        numbersOf5Digits();
        namesOf8Letters();
        namesThatAreWords();
        namesTaken();
        oaths();
        courses();
        masons();
        slipStones();
        slipsBy();
        finds();
        years();
        oneMore();
        stonesToldAhead();
        leastKindOfOneToken();
        firstAlongTheText();
        everyEndOfAWall();
        everyEndOfARound();
        numbersOfRounds();
        steps();
        within();
        newWall();
        fiveAndTen();
        Checks.end();
    }

    /** "how many it has; NONE if there would be more than 900" */
    private static void tapeOf900() {
        HollowWall x = new HollowWall();
        for (int has = 20; has <= 900; has += 20) {
            Checks.same("feed", x.feed(0x20202020, -1, 0, Integer.MIN_VALUE, Integer.MAX_VALUE), has);
        }
        Checks.same("the 46th", x.feed(0, 0, 0, 0, 0), HollowWall.NONE);
        Checks.same("the 47th", x.feed(0, 0, 0, 0, 0), HollowWall.NONE);
        Checks.refused(x, "901 of them", x.wall(901), 5);
        Checks.refused(x, "all of them", x.wall(900), 10);
        Checks.same("the first that is no TOKEN", x.fault(1), 4);
        Checks.same("emptied", x.feed(0, 0, 0, 0, 0), 20);
    }

    private static String filled(String text, int length) {
        StringBuilder all = new StringBuilder(text);
        while (all.length() < length) {
            all.append(all.length() % 3 == 0 ? '\n' : ' ');
        }
        return all.toString();
    }

    /** "A WALL is a TEXT of at most 900 bytes." The last byte is read, too. */
    private static void wallOf900() {
        Faults.wallTaken(filled(OATH, 891) + "course 9;", 9);
        Faults.wallAtBar(filled(OATH, 891) + "course 9|:", 1);
        Faults.wallAtBar(filled(OATH, 892) + "course 9|", 2);
    }

    /** "A ROUND is a TEXT of at most 300 bytes"; "5: above 300, too" */
    private static void roundOf300() {
        Faults.roundTaken(filled("", 295) + "stop;", 1);
        Faults.roundAtBar(filled("", 295) + "stop|:", 1);
        HollowWall x = new HollowWall();
        Checks.feed(x, filled("go 1;", 320));
        Checks.refused(x, "301 bytes, though the tape has them", x.round(301), 5);
        Checks.refused(x, "320 bytes", x.round(320), 5);
        Checks.fine(x, "300 bytes, still on the tape", x.round(300), 1);
        Checks.same("emptied, with those behind", x.feed(0, 0, 0, 0, 0), 20);
    }

    private static void nothingAtAll() {
        Faults.wall("", 2, 0);
        Faults.roundTaken("", 0);
        HollowWall x = new HollowWall();
        Checks.feed(x, OATH);
        Checks.refused(x, "nothing of 20 bytes", x.wall(0), 10);
        Checks.same("emptied", x.feed(0, 0, 0, 0, 0), 20);
        Checks.fine(x, "a ROUND of nothing", x.round(0), 0);
        Checks.same("emptied", x.feed(0, 0, 0, 0, 0), 20);
        Faults.wallTaken("oath 2 from 1;", 0);
    }

    /** "The first n bytes of the tape (which is empty then, but for 5)" */
    private static void firstBytesAlone() {
        HollowWall x = new HollowWall();
        Checks.feed(x, OATH + "course 16;@");
        Checks.fine(x, "all but the last", x.wall(24), 16);
        Checks.refused(x, "nothing is left", x.wall(1), 5);
        Checks.feed(x, OATH + "course 16;");
        Checks.refused(x, "cut behind its 1", x.wall(22), 10);
        Checks.same("fault", x.fault(0), 2);
        Checks.same("place", x.fault(1), 22);
        for (String cut : new String[] {"go 1;sto|p;", "go 1;|stop;", "go 1;stop|;", "go 1;s|top"}) {
            int n = cut.indexOf('|');
            Checks.feed(x, cut.replace("|", ""));
            x.round(n);
            boolean whole = n == 5;
            Checks.same("fault of " + cut, x.fault(0), whole ? 0 : 2);
            Checks.same("place of " + cut, x.fault(1), whole ? HollowWall.NONE : n == 9 ? 9 : 5);
        }
        Checks.feed(x, "go 12;");
        Checks.refused(x, "go 1", x.round(4), 10);
        Checks.same("place", x.fault(1), 4);
        Checks.feed(x, NINE);
        Checks.refused(x, "more than the tape has", x.wall(41), 5);
        Checks.refused(x, "below 0", x.wall(-1), 5);
        Checks.same("still there", x.feed(0x20202020, 0x20202020, 0x20202020, 0x20202020, 0x20202020), 60);
        Checks.fine(x, "all that the tape has", x.wall(60), 9);
    }

    private static boolean isSign(int sign) {
        return sign == ';' || sign == '<' || sign == '>' || sign == '=';
    }

    private static boolean isTokenOrBlank(int sign) {
        boolean word = sign >= 'a' && sign <= 'z';
        return word || sign >= '0' && sign <= '9' || isSign(sign) || sign == 10 || sign == 32;
    }

    /** "1 no TOKEN begins so": of all bytes but small letters, digits, the four signs, and the blanks 10 and 32. */
    private static void everyByte() {
        for (int sign = 0; sign < 256; sign++) {
            int fault = isTokenOrBlank(sign) ? 2 : 1;
            if (sign == 10 || sign == 32) {
                Faults.wallTaken(OATH + (char) sign, 0);
                Faults.roundTaken("stop;" + (char) sign, 1);
            } else {
                Faults.wall(OATH + (char) sign, fault, 14);
                Faults.round("stop;" + (char) sign, fault, 5);
            }
        }
    }

    /** "TOKENS, as long as they go": what stands right behind a WORD, a NUMBER goes on with it, or is the next TOKEN. */
    private static void everyByteInWords() {
        for (int sign = 0; sign < 256; sign++) {
            boolean blank = sign == 10 || sign == 32;
            boolean letter = sign >= 'a' && sign <= 'z';
            boolean digit = sign >= '0' && sign <= '9';
            int fault = isTokenOrBlank(sign) ? 2 : 1;
            String behindWord = OATH + "course" + (char) sign + "3;";
            if (blank || digit && sign < '2') {
                Faults.wallTaken(behindWord, 3 + 10 * Math.max(0, sign - '0'));
            } else {
                Faults.wall(behindWord, digit ? 4 : fault, letter ? 14 : 20);
            }
            String behindNumber = OATH + "course 1" + (char) sign + ";";
            if (blank || digit && sign < '7' || sign == ';') {
                Faults.wall(behindNumber + "@", sign == ';' ? 2 : 1, sign == ';' ? 23 : 24);
            } else {
                Faults.wall(behindNumber, digit ? 4 : fault, digit ? 21 : 22);
            }
        }
    }

    private static void blanks() {
        Faults.wallTaken("\n \n oath\n\n7  from \n1 \n;\n", 0);
        Faults.wallTaken("oath7from1;course9;", 9);
        for (char sign : new char[] {9, 11, 13, 0, 31, 33, 160}) {
            Faults.wallAtBar("oath 7|" + sign + "from 1;", 1);
        }
        Faults.wallAtBar("|oa th 7 from 1;", 2);
        Faults.wallAtBar(OATH + "course 1 |6;", 2);
    }

    private static void numbersOf4Digits() {
        Faults.wallTaken("oath 0007 from 0001;course 0009;", 9);
        Faults.wallTaken(NINE + "find at 0008 year 9999;", 9);
        Faults.wallTaken(NINE + "find at 0 year 0000;", 9);
        Faults.wallAtBar("oath |0000 from 1;", 4);
        Faults.wallAtBar("oath |9999 from 1;", 4);
        Faults.roundTaken("go 0099;when stone<0000;end;", 2);
    }

    /** "a NUMBER of 5 digits and more: at its first" */
    private static void numbersOf5Digits() {
        Faults.wallAtBar("oath |00007 from 1;", 1);
        Faults.wallAtBar(NINE + "find at 0 year |10000;", 1);
        Faults.wallAtBar(NINE + "find at |00001 year 1;", 1);
        Faults.wallAtBar(OATH + "course |4294967297;", 1);
        Faults.wallAtBar(OATH + "course |18446744073709551617;", 1);
        Faults.wallAtBar(OATH + "course |" + "0".repeat(600) + "1;", 1);
        // where no NUMBER can stand, too
        Faults.wallAtBar(OATH + "|00001;", 1);
        Faults.wallAtBar(OATH + "mason |12345", 1);
        Faults.wallAtBar("|12345", 1);
        Faults.roundAtBar("go |00001;", 1);
        Faults.roundAtBar("|12345", 1);
    }

    private static String mason(String name) {
        return "mason " + name + " lays 1 costs 1;";
    }

    /** "NAME: a WORD of 1 to 8 letters"; "a WORD of 9 letters and more where a NAME must stand": 2 */
    private static void namesOf8Letters() {
        Faults.wallTaken(NINE + mason("z"), 9);
        Faults.wallTaken(NINE + mason("abcdefgh"), 9);
        Faults.wallAtBar(NINE + "mason |abcdefghi lays 1 costs 1;", 2);
        Faults.wallAtBar(NINE + "mason |" + "a".repeat(500), 2);
        Faults.wallAtBar(NINE + "mason |;", 2);
        Faults.wallAtBar(NINE + "mason |1 lays 1 costs 1;", 2);
        Faults.wallAtBar(NINE + "mason |A lays 1 costs 1;", 1);
        Faults.wallAtBar(NINE + "mason a|B lays 1 costs 1;", 1);
        Faults.wallAtBar(NINE + "mason |<", 2);
        Faults.wallAtBar(NINE + "mason|", 2);
    }

    private static void namesThatAreWords() {
        String[] words = {"oath", "from", "course", "mason", "lays", "costs", "slip", "at", "by", "find", "year", "go", "back",
            "knock", "note", "turn", "when", "hollow", "full", "stone", "noted", "first", "loop", "end", "stop"};
        for (String word : words) {
            Faults.wallAtBar(NINE + "mason |" + word + " lays 1 costs 1;", 2);
            Faults.wallTaken(NINE + mason(word + "a"), 9);
            Faults.wallTaken(NINE + mason("x" + word), 9);
            if (!word.equals("noted") && word.length() > 1) {
                Faults.wallTaken(NINE + mason(word.substring(0, word.length() - 1)), 9);
                Faults.wallTaken(NINE + mason(word.substring(1)), 9);
            }
        }
        Faults.wallTaken(NINE + mason("oted"), 9);
        Faults.wallTaken(NINE + mason("wall") + mason("round") + mason("notes") + mason("oathfrom"), 9);
    }

    /** "No two MASONS have one NAME." */
    private static void namesTaken() {
        Faults.wallAtBar(NINE + mason("abcdefgh") + "mason |abcdefgh lays 1 costs 1;", 3);
        Faults.wallAtBar(NINE + mason("a") + mason("b") + mason("c") + "mason |a", 3);
        Faults.wallAtBar(NINE + mason("a") + mason("b") + mason("c") + "mason |c @", 3);
        Faults.wallTaken(NINE + mason("abcdefgh") + mason("abcdefg") + mason("abcdefgi") + mason("bbcdefgh"), 9);
        Faults.wallTaken(NINE + mason("a") + mason("aa") + mason("aaa") + mason("b"), 9);
    }

    private static void oaths() {
        for (int m = 2; m <= 13; m++) {
            Faults.wallTaken("oath " + m + " from 1;", 0);
            Faults.wallTaken("oath " + m + " from " + m + ";", 0);
            Faults.wallAtBar("oath " + m + " from |0;", 4);
            Faults.wallAtBar("oath " + m + " from |" + (m + 1) + ";", 4);
        }
        Faults.wallAtBar("oath |0 from 1;", 4);
        Faults.wallAtBar("oath |1 from 1;", 4);
        Faults.wallAtBar("oath |14 from 1;", 4);
    }

    private static void courses() {
        Faults.wallTaken(OATH + "course 1;", 1);
        Faults.wallTaken(OATH + "course 16;", 16);
        Faults.wallAtBar(OATH + "course |0;", 4);
        Faults.wallAtBar(OATH + "course |17;", 4);
        Faults.wallTaken(OATH + "course 16;".repeat(6), 96);
        Faults.wallTaken(OATH + "course 1;".repeat(6), 6);
    }

    private static void masons() {
        Faults.wallTaken(NINE + "mason a lays 1 costs 1;", 9);
        Faults.wallTaken(NINE + "mason a lays 96 costs 9;", 9);
        Faults.wallAtBar(NINE + "mason a lays |0 costs 1;", 4);
        Faults.wallAtBar(NINE + "mason a lays |97 costs 1;", 4);
        Faults.wallAtBar(NINE + "mason a lays 1 costs |0;", 4);
        Faults.wallAtBar(NINE + "mason a lays 1 costs |10;", 4);
    }

    /** "a SLIP AT a STONE that is not behind that of the SLIP ahead, or is STONE 0 (at it)": 5; none such: 4 */
    private static void slipStones() {
        Faults.wallTaken(NINE + "slip at 1 by 1;", 9);
        Faults.wallTaken(NINE + "slip at 8 by 1;", 9);
        Faults.wallAtBar(NINE + "slip at |0 by 1;", 5);
        Faults.wallAtBar(NINE + "slip at |9 by 1;", 4);
        Faults.wallTaken(NINE + "slip at 4 by 1;slip at 5 by 1;", 9);
        Faults.wallAtBar(NINE + "slip at 4 by 1;slip at |4 by 1;", 5);
        Faults.wallAtBar(NINE + "slip at 4 by 1;slip at |3 by 1;", 5);
        Faults.wallAtBar(NINE + "slip at 4 by 1;slip at |0 by 1;", 5);
        Faults.wallAtBar(NINE + "slip at 8 by 1;slip at |9 by 1;", 4);
        Faults.wallAtBar(NINE + "slip at 4 by 1;slip at 6 by 1;slip at |5 by 1;", 5);
        // A FIND is no SLIP: it may be ahead, and in STONE 0.
        Faults.wallTaken(NINE + "slip at 4 by 1;find at 0 year 1;find at 4 year 1;slip at 5 by 1;find at 3 year 1;", 9);
    }

    private static void slipsBy() {
        for (int m = 2; m <= 13; m++) {
            String ahead = "oath " + m + " from 1;course 3;slip at 1 by ";
            Faults.wallTaken(ahead + "1;", 3);
            Faults.wallTaken(ahead + (m - 1) + ";", 3);
            Faults.wallAtBar(ahead + "|0;", 4);
            Faults.wallAtBar(ahead + "|" + m + ";", 4);
        }
    }

    /** "a FIND AT a STONE of another FIND (at it)": 5 */
    private static void finds() {
        Faults.wallTaken(NINE + "find at 0 year 1;find at 8 year 1;", 9);
        Faults.wallAtBar(NINE + "find at |9 year 1;", 4);
        Faults.wallAtBar(NINE + "find at 8 year 1;find at |8 year 2;", 5);
        Faults.wallAtBar(NINE + "find at 0 year 0;find at |0 year 0;", 5);
        Faults.wallAtBar(NINE + "find at 0 year 0;find at 8 year 0;find at |0 year 0;", 5);
        Faults.wallTaken(NINE + "find at 8 year 1;find at 0 year 2;find at 7 year 3;", 9);
    }

    private static void years() {
        HollowWall x = Checks.built(NINE + "find at 0 year 0;find at 1 year 9999;");
        Checks.fine(x, "the least YEAR", x.stone(0, 7), 0);
        Checks.fine(x, "the greatest", x.stone(1, 7), 9999);
    }

    /** "one more course, mason, slip, find than there may be (at that WORD)": 6 */
    private static void oneMore() {
        Faults.wallAtBar(OATH + "course 1;".repeat(6) + "|course", 6);
        Faults.wallAtBar(OATH + "course 1;".repeat(6) + "|course 99;", 6);
        String four = NINE + mason("a") + mason("b") + mason("c") + mason("d");
        Faults.wallTaken(four, 9);
        Faults.wallAtBar(four + "|mason a", 6);
        Faults.wallAtBar(four + "|mason @", 6);
        StringBuilder slips = new StringBuilder(NINE);
        for (int s = 3; s < 9; s++) {
            slips.append("slip at ").append(s).append(" by 6;");
        }
        Faults.wallTaken(slips.toString(), 9);
        Faults.wallAtBar(slips + "|slip at 8 by 1;", 6);
        Faults.wallAtBar(slips + "|slip", 6);
        StringBuilder finds = new StringBuilder(NINE);
        for (int s = 0; s < 8; s++) {
            finds.append("find at ").append(s).append(" year 6;");
        }
        Faults.wallTaken(finds.toString(), 9);
        Faults.wallAtBar(finds + "|find at 8 year 1;", 6);
        Faults.wallAtBar(finds + "|find", 6);
        // Each is counted for itself.
        Faults.wallTaken(finds + slips.substring(NINE.length()) + four.substring(NINE.length()) + "course 1;".repeat(5), 14);
    }

    /** "a STONE that is none as told ahead": 4 */
    private static void stonesToldAhead() {
        Faults.wallAtBar(OATH + "slip at |1 by 1;course 9;", 4);
        Faults.wallAtBar(OATH + "find at |0 year 1;course 9;", 4);
        Faults.wallAtBar(OATH + "course 3;slip at |3 by 1;course 9;", 4);
        Faults.wallAtBar(OATH + "course 3;find at |3 year 1;course 9;", 4);
        Faults.wallTaken(OATH + "course 3;slip at 2 by 1;find at 2 year 1;course 9;slip at 11 by 1;find at 11 year 1;", 12);
    }

    /** "of one TOKEN the least kind" */
    private static void leastKindOfOneToken() {
        // no STONE (4), and STONE 0 or not behind the SLIP ahead (5)
        Faults.wallAtBar(OATH + "slip at |0 by 1;", 4);
        Faults.wallAtBar(OATH + "course 3;slip at 2 by 1;slip at |3 by 1;", 4);
        // no TOKEN (1), and it can't stand there (2) or be (4)
        Faults.wallAtBar(OATH + "course |99999;", 1);
        Faults.wallAtBar(OATH + "|99999;", 1);
        // more than there may be (6), and not where such a WORD can stand (2)
        Faults.wallAtBar(OATH + "course 1;".repeat(6) + "|course", 6);
        Faults.wallAtBar(OATH + "course 1;".repeat(5) + "course |course 1;", 2);
        Faults.roundAtBar("stop;".repeat(29) + "go |go 1;", 2);
        // a 31st STEP (6), and within three others (7)
        Faults.roundAtBar("stop;".repeat(27) + "loop 1;loop 1;loop 1;|loop 1;", 6);
        Faults.roundAtBar("stop;".repeat(26) + "loop 1;loop 1;loop 1;|loop 1;", 7);
    }

    private static void firstAlongTheText() {
        Faults.wallAtBar("oath |99 from 99;@", 4);
        Faults.wallAtBar(OATH + "course 9|@course 99;", 1);
        Faults.wallAtBar(NINE + "slip at |0 by 9 @", 5);
        Faults.wallAtBar(NINE + mason("a") + "mason |a @", 3);
        Faults.wallAtBar(OATH + "course 1;".repeat(6) + "|course 99 @", 6);
        Faults.roundAtBar("go |100 @", 4);
        Faults.roundAtBar("loop 1;loop 1;loop 1;|when @", 7);
    }

    /** Each beginning of a WALL's text that ends within a PART is cut short at its length, if no WORD is cut. */
    private static void everyEndOfAWall() {
        String text = "oath 13 from 12 ; course 16 ; mason a lays 5 costs 1 ; slip at 11 by 3 ; find at 2 year 1999 ; ";
        int part = 0;
        for (int n = 0; n <= text.length(); n++) {
            part = n > 0 && text.charAt(n - 1) == ';' ? n : part;
            String cut = text.substring(0, n);
            boolean inWord = n > 0 && n < text.length() && Character.isLetter(text.charAt(n - 1))
                && Character.isLetter(text.charAt(n));
            if (part > 0 && cut.substring(part).isBlank()) {
                Faults.wallTaken(cut, part > 20 ? 16 : 0);
            } else if (inWord) {
                Faults.wall(cut, 2, cut.lastIndexOf(' ') + 1);
            } else if (!cut.endsWith("oath 1")) {
                Faults.wall(cut, 2, n);
            } else {
                Faults.wall(cut, 4, n - 1);
            }
        }
    }

    private static void everyEndOfARound() {
        String text = "go 12 ; loop 34 ; when stone < 56 ; knock ; end ; back 7 ; end ; ";
        int open = 0;
        int part = 0;
        for (int n = 0; n <= text.length(); n++) {
            String cut = text.substring(0, n);
            open += cut.endsWith("loop 34 ;") || cut.endsWith("56 ;") ? 1 : cut.endsWith("end ;") ? -1 : 0;
            part = cut.endsWith(";") ? n : part;
            boolean inWord = n > 0 && n < text.length() && Character.isLetter(text.charAt(n - 1))
                && Character.isLetter(text.charAt(n));
            if (open == 0 && cut.substring(part).isBlank()) {
                Faults.roundTaken(cut, n < 7 ? 0 : n < 20 ? 1 : 5);
            } else {
                Faults.round(cut, 2, inWord ? cut.lastIndexOf(' ') + 1 : n);
            }
        }
    }

    /** "go, back 1 to 99; stone 0 to 99; loop 1 to 99" */
    private static void numbersOfRounds() {
        for (String step : new String[] {"go ", "back "}) {
            Faults.roundTaken(step + "1;", 1);
            Faults.roundTaken(step + "99;", 1);
            Faults.roundAtBar(step + "|0;", 4);
            Faults.roundAtBar(step + "|100;", 4);
        }
        Faults.roundTaken("loop 1;end;", 1);
        Faults.roundTaken("loop 99;end;", 1);
        Faults.roundAtBar("loop |0;end;", 4);
        Faults.roundAtBar("loop |100;end;", 4);
        for (String sign : new String[] {"<", ">", "="}) {
            Faults.roundTaken("when stone" + sign + "0;end;", 1);
            Faults.roundTaken("when stone" + sign + "99;end;", 1);
            Faults.roundAtBar("when stone" + sign + "|100;end;", 4);
            Faults.roundAtBar("when stone" + sign + "|;end;", 2);
        }
        Faults.roundAtBar("when stone |;", 2);
        Faults.roundAtBar("when |< 5;", 2);
    }

    /** "6 a 31st STEP (at its WORD; end is none)" */
    private static void steps() {
        Faults.roundTaken("stop;".repeat(30), 30);
        Faults.roundAtBar("stop;".repeat(30) + "|stop;", 6);
        for (String step : new String[] {"go", "back", "knock", "note", "turn", "when", "loop", "stop"}) {
            Faults.roundAtBar("turn;".repeat(30) + "|" + step, 6);
        }
        Faults.roundTaken("loop1;end;".repeat(30), 30);
        Faults.roundTaken("loop1;end;".repeat(20) + "loop1;" + "stop;".repeat(9) + "end;", 30);
        Faults.roundAtBar("loop1;end;".repeat(20) + "loop1;" + "stop;".repeat(9) + "|stop;end;", 6);
        Faults.roundTaken("turn;".repeat(29) + "loop 9;end;", 30);
        Faults.roundAtBar("turn;".repeat(30) + "|end;", 2);
    }

    /** "7 a when, loop within three others (at its WORD)"; "an end without a beginning": 2 */
    private static void within() {
        for (String inner : new String[] {"when full;", "loop 1;"}) {
            Faults.roundTaken("loop 1;when full;" + inner + "end;end;end;", 3);
            Faults.roundTaken("loop 1;when full;" + inner + "end;" + inner + "end;end;end;" + inner + "end;", 5);
            Faults.roundAtBar("loop 1;when full;loop 1;|" + inner + "end;end;end;end;", 7);
            Faults.roundAtBar("loop 1;when full;loop 1;end;when full;go 1;|" + inner, 7);
        }
        Faults.roundAtBar("|end;", 2);
        Faults.roundAtBar("loop 1;loop 1;loop 1;end;end;end;|end;", 2);
        Faults.roundAtBar("loop 1;end;knock;|end;", 2);
        Faults.roundAtBar("loop 1;loop 1;end;|", 2);
        Faults.roundAtBar("loop 1;end|", 2);
    }

    /** "nothing is NOTED, the HAMMER is at STONE 0, there is no ROUND"; a FAULT leaves them all. */
    private static void newWall() {
        HollowWall x = Checks.built(NINE);
        Checks.round(x, "knock;note;");
        x.note(8, 1);
        x.hammer(8);
        Checks.refused(x, "a FAULT at the end", Checks.wall(x, NINE + "course"), 10);
        Checks.fine(x, "NOTED", x.many(8), 1);
        Checks.fine(x, "HAMMER", x.many(7), 8);
        Checks.fine(x, "ROUND", x.walk(0, 0), 2);
        Checks.fine(x, "the same WALL anew", Checks.wall(x, NINE), 9);
        Checks.fine(x, "NOTED", x.many(8), 0);
        Checks.fine(x, "HAMMER", x.many(7), 0);
        Checks.refused(x, "ROUND", x.walk(0, 0), 8);
        // NAMES, SLIPS, FINDS of a WALL that had a FAULT are none of the next.
        Checks.wall(x, NINE + mason("a") + "slip at 5 by 1;find at 5 year 1;@");
        Checks.fine(x, "all anew", Checks.wall(x, NINE + mason("a") + "slip at 5 by 1;find at 5 year 1;"), 9);
        Checks.fine(x, "MASONS", x.many(2), 1);
        Checks.fine(x, "SLIPS", x.many(3), 1);
        Checks.fine(x, "FINDS", x.many(4), 1);
    }

    /** "Of the latest of these with STATUS 0 or 10": behind 5 it tells of the one ahead. */
    private static void fiveAndTen() {
        HollowWall x = new HollowWall();
        x.wall(1);
        x.round(1);
        Checks.same("ahead of any", x.fault(0), HollowWall.NONE);
        Checks.same("ahead of any", x.fault(1), HollowWall.NONE);
        Checks.round(x, "go 5;go 100;");
        Checks.same("of the ROUND", x.fault(0), 4);
        Checks.same("of the ROUND", x.fault(1), 8);
        x.wall(1);
        Checks.same("behind 5", x.fault(0), 4);
        Checks.same("behind 5", x.fault(1), 8);
        Checks.wall(x, OATH);
        Checks.same("of the WALL", x.fault(0), 0);
        Checks.same("of the WALL", x.fault(1), HollowWall.NONE);
        x.round(301);
        Checks.same("behind 5", x.fault(0), 0);
        Checks.refused(x, "another WALL", Checks.wall(x, "oath 7;"), 10);
        Checks.same("of the WALL", x.fault(0), 2);
        Checks.same("of the WALL", x.fault(1), 6);
        Checks.round(x, "");
        Checks.same("of the ROUND", x.fault(0), 0);
        Checks.same("of the ROUND", x.fault(1), HollowWall.NONE);
    }
}
