/** Promise 5: column. */
public final class Promise05ColumnTest {
    private static final String[] KINDS = {"keep", "ear", "eye", "mix", "feet", "told", "free"};

    public static void main(String[] args) {
        Promise.run(Promise05ColumnTest.class);
    }

    /** With a FAULT nothing changes but that THE TAPE is empty, and there is no finding. */
    private static void fault(Due due, String text, int fault) {
        LongColumn x = Due.some();
        x.wipe();
        String before = Seen.of(x);
        int findings = x.status(-1);
        due.is("'" + text + "'", Due.column(x, text), -1 - fault);
        due.is("findings of '" + text + "'", x.status(-1), findings);
        due.holds("nothing changes by '" + text + "'", Seen.of(x).equals(before));
    }

    private static void ranks(Due due, String text, int ranks) {
        due.is("'" + text + "'", Due.column(new LongColumn(), text), ranks);
    }

    /** What a RANK has that comes alone by a text. */
    private static void has(Due due, String text, int what, int v) {
        due.is("'" + text + "', " + what, Due.of(text).rankOf(0, what), v);
    }

    @Sentence("With a FAULT: -1 less the FAULT (nothing changes but that THE TAPE is empty; no finding).")
    static void noText(Due due) {
        fault(due, "", 0);
    }

    @Sentence("or how many bytes there are (blanks, too) if it ends too early.")
    static void blanksAlone(Due due) {
        fault(due, " ", 1);
        fault(due, "   ", 3);
        fault(due, " ".repeat(120), 120);
    }

    @Sentence("or how many bytes there are (blanks, too) if it ends too early.")
    static void endsTooEarly(Due due) {
        fault(due, "ear", 3);
        fault(due, "ear  ", 5);
        fault(due, "ear 1", 5);
        fault(due, "ear 1 ", 6);
        fault(due, "ear 1 every", 11);
        fault(due, "ear 1 every ", 12);
        fault(due, "ear 1 every 1 part", 18);
        fault(due, "ear 1 every 1 share ", 20);
        fault(due, "ear 1 every 1 drift", 19);
        fault(due, "ear 1 every 1 part 1 part", 25);
        fault(due, "ear 1 every 1;", 14);
        fault(due, "ear 1 every 1 ; ", 16);
        fault(due, "ear 1 every 1;eye", 17);
    }

    @Sentence("GROUP: a kind (keep, ear, eye, mix, feet, told, free)")
    static void kinds(Due due) {
        for (int kind = 0; kind < KINDS.length; kind++) {
            has(due, KINDS[kind] + " 1 every 1", 0, kind);
        }
    }

    @Sentence({"(a NUMBER that isn't as told, another WORD,", "GROUP: a kind"})
    static void noKind(Due due) {
        fault(due, "ea 1 every 1", 0);
        fault(due, "ears 1 every 1", 0);
        fault(due, "keeper 1 every 1", 0);
        fault(due, "fee 1 every 1", 0);
        fault(due, "xar 1 every 1", 0);
        fault(due, "exr 1 every 1", 0);
        fault(due, "eax 1 every 1", 0);
        fault(due, "every 1 every 1", 0);
        fault(due, "part 1 every 1", 0);
        fault(due, "  x", 2);
        fault(due, "1 every 1", 0);
        fault(due, "; ear 1 every 1", 0);
        fault(due, "ear 1 every 1; mixed 1 every 1", 15);
        fault(due, "ear 1 every 1;1", 14);
        fault(due, "ear 1 every 1 ; ;", 16);
        fault(due, "ear 1 every 1;;", 14);
    }

    @Sentence("a NUMBER (1 to 24: so many RANKS)")
    static void soManyRanks(Due due) {
        ranks(due, "ear 1 every 1", 1);
        ranks(due, "ear 24 every 1", 24);
        fault(due, "ear 0 every 1", 4);
        fault(due, "ear 00 every 1", 4);
        fault(due, "ear 25 every 1", 4);
        fault(due, "ear every 1", 4);
        fault(due, "ear;", 3);
        fault(due, "ear ear", 4);
    }

    @Sentence("every, a NUMBER (1 to 200: feet behind the one ahead, the first of the GROUP, too, but RANK 0)")
    static void every(Due due) {
        fault(due, "ear 1 1", 6);
        fault(due, "ear 1 part 1", 6);
        fault(due, "ear 1 ever 1", 6);
        fault(due, "ear 1 avery 1", 6);
        fault(due, "ear 1 everyy 1", 6);
        fault(due, "ear 1;", 5);
        fault(due, "ear 1 every 0", 12);
        fault(due, "ear 1 every 201", 12);
        fault(due, "ear 1 every every", 12);
        fault(due, "ear 1 every;", 11);
    }

    @Sentence({"1 to 200: feet behind the one ahead, the first of the GROUP, too, but RANK 0",
        "the first AT 0 feet, each AT a place behind the one ahead;"})
    static void places(Due due) {
        LongColumn x = Due.of("ear 2 every 200;eye 2 every 1");
        Due.column(x, "mix 2 every 30");
        int[] at = {0, 200, 201, 202, 232, 262};
        for (int rank = 0; rank < at.length; rank++) {
            due.is("place of " + rank, x.rankOf(rank, 1), at[rank]);
        }
        due.is("the last one of the longest", Due.of("ear 24 every 200").rankOf(23, 1), 4600);
    }

    @Sentence({"part, a NUMBER (0 to 100)", "share, a NUMBER (0 to 100)", "drift, a NUMBER (0 to 99)"})
    static void wordsAtTheirEnds(Due due) {
        has(due, "ear 1 every 1 part 0", 2, 0);
        has(due, "ear 1 every 1 part 100", 2, 100);
        has(due, "ear 1 every 1 share 0", 3, 0);
        has(due, "ear 1 every 1 share 100", 3, 100);
        has(due, "ear 1 every 1 drift 0", 4, 0);
        has(due, "ear 1 every 1 drift 99", 4, 99);
    }

    @Sentence({"and any of: part, a NUMBER (0 to 100), share, a NUMBER (0 to 100), drift, a NUMBER (0 to 99),"})
    static void wordsTooLarge(Due due) {
        fault(due, "ear 1 every 1 part 101", 19);
        fault(due, "ear 1 every 1 share 101", 20);
        fault(due, "ear 1 every 1 drift 100", 20);
        fault(due, "ear 1 every 1 part 100 share 100 drift 100", 39);
    }

    @Sentence("and any of:")
    static void wordsWithoutNumber(Due due) {
        fault(due, "ear 1 every 1 part;", 18);
        fault(due, "ear 1 every 1 part share 1", 19);
        fault(due, "ear 1 every 1 drift -1", 20);
        fault(due, "ear 1 every 1 2", 14);
        fault(due, "ear 1 every 1 every 1", 14);
        fault(due, "ear 1 every 1 par 1", 14);
        fault(due, "ear 1 every 1 cart 1", 14);
        fault(due, "ear 1 every 1 parts 1", 14);
        fault(due, "ear 1 every 1 part 1 2", 21);
        fault(due, "ear 1 every 1 ear 1 every 1", 14);
    }

    @Sentence("the last one of a WORD counts")
    static void theLastOneCounts(Due due) {
        LongColumn x = Due.of("ear 1 every 1 part 1 share 2 drift 3 part 4 drift 6 share 5 part 0");
        due.is("part", x.rankOf(0, 2), 0);
        due.is("share", x.rankOf(0, 3), 5);
        due.is("drift", x.rankOf(0, 4), 6);
        fault(due, "ear 1 every 1 part 101 part 1", 19);
    }

    @Sentence("(without it 50, 50, 0).")
    static void withoutWords(Due due) {
        LongColumn x = Due.of("ear 1 every 1 part 1 share 2 drift 3;ear 1 every 1");
        Due.column(x, "ear 1 every 1");
        for (int rank = 1; rank <= 2; rank++) {
            due.is("part of " + rank, x.rankOf(rank, 2), 50);
            due.is("share of " + rank, x.rankOf(rank, 3), 50);
            due.is("drift of " + rank, x.rankOf(rank, 4), 0);
        }
    }

    @Sentence("NUMBERS (rows of digits, 9999 at most)")
    static void longNumbers(Due due) {
        fault(due, "ear 9999 every 1", 4);
        fault(due, "ear 10000 every 1", 4);
        // what would be 1 if it went round at 2 to the power of 32, of 64, and of 16
        fault(due, "ear 4294967297 every 1", 4);
        fault(due, "ear 18446744073709551617 every 1", 4);
        fault(due, "ear 65537 every 1", 4);
        fault(due, "ear 1 every 1 part 4294967296", 19);
        fault(due, "ear " + "9".repeat(116), 4);
        fault(due, "ear 1 every 1 drift " + "1".repeat(100), 20);
    }

    @Sentence("NUMBERS (rows of digits, 9999 at most)")
    static void zerosAhead(Due due) {
        ranks(due, "ear 0024 every 0200", 24);
        ranks(due, "ear 000001 every 1 part 00000100", 1);
    }

    @Sentence("TOKENS, each as long as can be: WORDS (letters a to z)")
    static void asLongAsCanBe(Due due) {
        ranks(due, "ear1every1", 1);
        ranks(due, "ear2every3part4share5drift6;eye1every1", 3);
        fault(due, "earevery", 0);
        fault(due, "earear 1 every 1", 0);
        fault(due, "ear 1 every 1 partshare 1", 14);
        fault(due, "ear 111 every 1", 4);
    }

    @Sentence("blanks (32) may stand between.")
    static void blanksBetween(Due due) {
        ranks(due, "   ear   1   every   1   part   1   ;   ear   1   every   1   ", 2);
        fault(due, "e ar 1 every 1", 0);
        fault(due, "ear 2 4 every 1", 6);
        fault(due, "ear 1 ev ery 1", 6);
        fault(due, "ear\t1 every 1", 3);
        fault(due, "ear 1 every 1\n", 13);
    }

    @Sentence("a byte that begins no TOKEN: its own)")
    static void bytesThatBeginNoToken(Due due) {
        int[] none = {0, 9, 10, 13, 31, 33, '-', '.', '/', ':', '<', '@', 'A', 'Z', '[', '`', '{', 127, 128, 160, 229, 255};
        for (int sign : none) {
            LongColumn x = new LongColumn();
            due.is(sign + " for a kind", Due.column(x, (char) sign + "ear 1 every 1"), -1);
            due.is(sign + " just behind a WORD", Due.column(x, "ear" + (char) sign + " 1 every 1"), -4);
            due.is(sign + " just behind a NUMBER", Due.column(x, "ear 1" + (char) sign + "every 1"), -6);
            due.is(sign + " within a WORD", Due.column(x, "ear 1 eve" + (char) sign + "ry 1"), -7);
            due.is(sign + " for every", Due.column(x, "ear 1 " + (char) sign), -7);
            due.is(sign + " for a NUMBER", Due.column(x, "ear 1 every " + (char) sign), -13);
            due.is(sign + " behind a GROUP", Due.column(x, "ear 1 every 1" + (char) sign), -14);
            due.is(sign + " behind a blank", Due.column(x, "ear 1 every 1 " + (char) sign), -15);
        }
        fault(due, "Ear 1 every 1", 0);
        fault(due, "ear 1 every 1 part -1", 19);
    }

    @Sentence({"WORDS (letters a to z)", "rows of digits"})
    static void firstAndLastLetter(Due due) {
        fault(due, "eara 1 every 1", 0);
        fault(due, "earz 1 every 1", 0);
        fault(due, "ear 1a every 1", 5);
        fault(due, "ear 1z every 1", 5);
        fault(due, "ear 90 every 1", 4);
    }

    @Sentence({"TEXT: GROUP { ; GROUP }.", "SIGN ;"})
    static void groups(Due due) {
        ranks(due, "ear1every1;eye1every1", 2);
        ranks(due, "ear1every1" + ";ear1every1".repeat(10), 11);
        fault(due, "ear1every1" + ";ear1every1".repeat(9) + ";ear1every0", 119);
        fault(due, "ear1every1" + ";ear1every1".repeat(9) + ";ear1every", 119);
        fault(due, "ear1every1,ear1every1", 10);
    }

    @Sentence("FAULT: the place (from 0) of the first byte of the first TOKEN that can't stand there")
    static void theFirstFault(Due due) {
        fault(due, "ear 0 every 0 part 999", 4);
        fault(due, "ear 1 every 0 part 999", 12);
        fault(due, "ear 24 every 1;ear 24 every 1;x", 30);
        fault(due, " ".repeat(119) + "x", 119);
        fault(due, " ".repeat(115) + "ear;", 118);
    }

    @Sentence("THE TAPE is a TEXT, and empty then; its RANKS come behind those that there are: how many there are then.")
    static void ranksComeBehind(Due due) {
        LongColumn x = Due.of("ear 2 every 5");
        x.change(1, 5, 9);
        due.is("three more", Due.column(x, "eye 3 every 5"), 5);
        due.is("bytes", x.count(3), 0);
        due.is("kind of 1", x.rankOf(1, 0), 1);
        due.is("kind of 2", x.rankOf(2, 0), 2);
        due.outs("those that there are", x, 0, 9, 0, 0, 0);
        due.is("the same TEXT does not come again", x.column(), -1);
    }

    @Sentence("(nothing changes but that THE TAPE is empty; no finding).")
    static void nothingOfAFaultyTextComes(Due due) {
        LongColumn x = new LongColumn();
        due.is("the second GROUP", Due.column(x, "ear 2 every 5;eye 0 every 1"), -19);
        due.is("RANKS", x.count(0), 0);
        due.is("bytes", x.count(3), 0);
        due.is("findings", x.status(-1), 0);
    }

    @Sentence({"RANKS 0, 1, .. (at most 24)", "they have no room (THE TAPE is empty then)."})
    static void justFull(Due due) {
        ranks(due, "ear 20 every 1;eye 4 every 1", 24);
        LongColumn x = Due.of("ear 20 every 1");
        due.is("four more", Due.column(x, "eye 4 every 1"), 24);
    }

    @Sentence({"RANKS 0, 1, .. (at most 24)", "FULL (behind a FAULT): they have no room"})
    static void oneTooMany(Due due) {
        due.refuses("five more", Due.FULL, () -> Due.of("ear 20 every 1"), x -> Due.column(x, "eye 5 every 1"));
        due.refuses("two and three", Due.FULL, () -> Due.of("ear 20 every 1"),
                x -> Due.column(x, "eye 2 every 1;eye 3 every 1"));
        due.refuses("25 at once", Due.FULL, LongColumn::new, x -> Due.column(x, "eye 24 every 1;ear 1 every 1"));
        due.refuses("far too many", Due.FULL, LongColumn::new,
                x -> Due.column(x, "ear24every1" + ";ear24every1".repeat(9)));
    }

    @Sentence({"RANKS 0, 1, .. (at most 24)", "FULL (behind a FAULT): they have no room"})
    static void noRoomAtAll(Due due) {
        due.refuses("one more", Due.FULL, () -> Due.of("ear 24 every 1"), x -> Due.column(x, "eye 1 every 1"));
    }

    @Sentence("FULL (behind a FAULT)")
    static void faultAheadOfFull(Due due) {
        LongColumn x = Due.of("ear 24 every 1");
        due.is("it ends too early", Due.column(x, "eye 5 every 1;"), -15);
        due.is("a NUMBER", Due.column(x, "eye 24 every 1;eye 25 every 1"), -20);
        due.is("findings", x.status(-1), 0);
    }

    @Sentence("(THE TAPE is empty then).")
    static void fullEmptiesTheTape(Due due) {
        LongColumn x = Due.of("ear 24 every 1");
        due.is("FULL", Due.column(x, "eye 1 every 1"), Due.FULL);
        due.is("bytes", x.count(3), 0);
        due.is("the next TEXT is an empty one", x.column(), -1);
    }
}
