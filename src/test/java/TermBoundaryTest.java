import java.util.Arrays;

/** The edges that the document's "What it is" and "Terms" name, a sentence to a method. */
final class TermBoundaryTest {
  private static final String ARGUMENT = "throws.IllegalArgumentException";
  private static final String STATE = "throws.IllegalStateException";
  private static final String NO_ELEMENT = "throws.NoSuchElementException";
  private static final String SIGNS = "!#$%&*+-./:<=>?@^|~";
  private static final String LONE_SIGNS = "()[]{},;";
  private static final Check check = new Check("TermBoundaryTest");

  public static void main(String[] args) {
    at512Calls();
    atMost200Bytes();
    onlySpacesAndLineEndsBetweenWords();
    spacesNeedNotStand();
    everyByteOfAText();
    rowsEndWhereTheKindChanges();
    rowsAreAsLongAsCanBe();
    atMost8BytesAWord();
    atMost30Words();
    levelsOfNotations();
    oneToSixParts();
    levelsOfHoles();
    noTwoHolesSideBySide();
    onePartIsAWord();
    bracketsAreNoWordsOfNotations();
    keysAreNoAtoms();
    atomsAndBracketsHaveEveryLevel();
    notationsOfTheLevelOrMore();
    aTextIsOfLevelZero();
    faultAtTheFirstWord();
    faultAtTheEnd();
    textsOfAnyLengthBegin();
    faultTwoAtItsFirstByte();
    theFaultFurtherLeft();
    faultTwoIfBothAreAtOnePlace();
    justOneTree();
    nodesAreNumberedAsTheyBegin();
    oneSpaceBetweenTwo();
    bracketsAroundLowerLevels();
    anAtomsOwnLevelIsTen();
    check.end();
  }

  /** "An object is used for at most 512 calls": the 512th is answered as the others are. */
  private static void at512Calls() {
    NotationParse x = new NotationParse();
    for (int i = 0; i < 12; i++) {
      check.due("notation " + i, Check.notation(x, i % 10, "_0 + _0 - _0 " + "*".repeat(1 + i % 8)), i);
    }
    Check.text(x, "(".repeat(8) + " ".repeat(176) + "a+b-c*))" + "))))))**");
    int calls = 12 * 7 + 1 + 25;
    for (; calls < 511; calls++) {
      check.due("call " + (calls + 1), () -> x.read(), ARGUMENT);
    }
    check.due("call 512", x.fault(1), 198);

    NotationParse y = Check.sums();
    Check.text(y, "(a + b) * c");
    calls = 25 + 3;
    for (; calls < 510; calls++) {
      check.due("call " + (calls + 1), () -> y.read(), 1);
    }
    check.due("call 511", () -> y.print(), 13);
    check.due("call 512", y.at(12), (int) 'c');
  }

  /** "BYTES of a text, at most 200". */
  private static void atMost200Bytes() {
    NotationParse x = Check.sums();
    String full = "a" + " ".repeat(197) + "+b";
    check.due("200 bytes come", Check.text(x, full), true);
    check.due("200 bytes", x.about(2), 200);
    check.due("200 bytes are read", () -> x.read(), 1);
    check.due("to the last", x.node(2, 2), 199);
    check.due("201 bytes do not come", Check.text(x, full + "c"), false);
    check.due("still 200 bytes", x.about(2), 200);
    check.due("the 200 are read", () -> x.read(), 1);
    check.due("and are as before", Check.printed(x), "a + b");
  }

  /** "32 and 10 may stand between WORDS". */
  private static void onlySpacesAndLineEndsBetweenWords() {
    NotationParse x = Check.sums();
    for (int b = 0; b <= 32; b++) {
      boolean stands = b == 32 || b == 10;
      String c = String.valueOf((char) b);
      check.due("between words, byte " + b, Check.read(x, "a" + c + "+" + c + c + "b"), stands ? "1" : "fault 2 at 1");
      check.due("ahead of words, byte " + b, Check.read(x, c + "a"), stands ? "1" : "fault 2 at 0");
      check.due("behind words, byte " + b, Check.read(x, "a" + c), stands ? "1" : "fault 2 at 1");
    }
    check.due("a line end parts two words", Check.read(x, "a\nb"), "fault 1 at 2");
    check.due("a space parts two words", Check.read(x, "1 1"), "fault 1 at 2");
    check.due("byte 160 is no space", Check.read(x, "a\u00a0+ b"), "fault 2 at 1");
    check.due("byte 138 is no line end", Check.read(x, "a\u008a+ b"), "fault 2 at 1");
  }

  /** "and need not". */
  private static void spacesNeedNotStand() {
    NotationParse x = Check.sums();
    check.due("no spaces", Check.read(x, "if(a)then(b*c)else(7)"), 1);
    check.due("the places without them", Check.nodes(x), "4/3/0/14/-1 -2/1/2/3/0 -1/0/3/1/1 -2/1/9/5/0 "
        + "1/2/10/3/3 -1/0/10/1/4 -1/0/12/1/4 -2/1/18/3/0 -1/0/19/1/7");
  }

  /** "A word is a row of letters (A .. Z, a .. z), a row of digits, a row of the signs .. or one of the signs ..". */
  private static void everyByteOfAText() {
    for (int b = 0; b < 256; b++) {
      char c = (char) b;
      boolean atom = c >= 'a' && c <= 'z' || c >= 'A' && c <= 'Z' || c >= '0' && c <= '9';
      boolean sign = SIGNS.indexOf(c) >= 0 || LONE_SIGNS.indexOf(c) >= 0;
      boolean begins = c == '(' || c == ' ' || c == '\n';
      String due = atom ? "1" : begins ? "fault 1 at 1" : sign ? "fault 1 at 0" : "fault 2 at 0";
      check.due("the text of byte " + b, Check.read(new NotationParse(), "" + c), due);
    }
  }

  /** ".. a row of letters, a row of digits, a row of the signs .., or one of the signs ( ) [ ] { } , ; by itself". */
  private static void rowsEndWhereTheKindChanges() {
    String bytes = "AMZamz059" + SIGNS + LONE_SIGNS.substring(2);
    for (char c : bytes.toCharArray()) {
      for (char d : bytes.toCharArray()) {
        NotationParse x = new NotationParse();
        Check.notation(x, 0, c + " " + d);
        boolean one = kindOf(c) == kindOf(d) && kindOf(c) != 'l';
        check.due("the word " + c + d, Check.outcome(() -> Check.word(x, "" + c + d)), one ? "1" : ARGUMENT);
        if (one) {
          x.notation(0);
        }
        check.due("the text " + c + d, Check.read(x, "" + c + d), 1);
        check.due("its notation", x.node(0, 0), one ? 1 : 0);
        check.due("its words", x.node(0, 3), one ? 1 : 2);
      }
    }
    NotationParse y = new NotationParse();
    check.due("brackets by themselves", Check.read(y, "((a))"), 1);
    check.due("are nodes by themselves", y.about(3), 3);
  }

  private static char kindOf(char c) {
    return Character.isLetter(c) ? 'a' : Character.isDigit(c) ? '1' : SIGNS.indexOf(c) >= 0 ? 's' : 'l';
  }

  /** "as long as can be". */
  private static void rowsAreAsLongAsCanBe() {
    NotationParse x = Check.sums();
    check.due("two signs are one word", Check.read(x, "a+!b"), "fault 1 at 1");
    check.due("the same sign twice is one word", Check.read(x, "!!a"), "fault 1 at 0");
    check.due("a key and a letter are one word", Check.read(x, "ifx"), 1);
    check.due("a letter and a key are one word", Check.read(x, "xif"), 1);
    check.due("a digit ends letters", Check.read(x, "if1then2"), 1);
    Check.notation(x, 5, "_5 ++ _6");
    check.due("the longer key", Check.read(x, "a++b"), 1);
    check.due("is the longer key's", x.node(0, 0), 5);
    check.due("three signs are neither", Check.read(x, "a+++b"), "fault 1 at 1");
  }

  /** "at most 8 bytes"; "a word that is too long". */
  private static void atMost8BytesAWord() {
    for (String c : new String[] {"a", "Z", "0", "9", "+", "~"}) {
      NotationParse x = new NotationParse();
      check.due("a word of 8 " + c, Check.notation(x, 0, c.repeat(8) + " _0"), 0);
      check.due("8 bytes of " + c, Check.read(x, c.repeat(8) + " (b)"), 1);
      check.due("printed, 8 bytes of " + c, Check.printed(x), c.repeat(8) + " b");
      check.due("9 bytes of " + c, Check.read(x, c.repeat(9) + " b"), "fault 2 at 0");
      check.due("9 bytes of " + c + " behind a word", Check.read(x, c.repeat(8) + " " + c.repeat(9)), "fault 2 at 9");
      check.due("16 bytes of " + c, Check.read(x, c.repeat(16)), "fault 2 at 0");
      check.due("200 bytes of " + c, Check.read(x, c.repeat(200)), "fault 2 at 0");
      check.due("7 bytes of " + c + " are another word",
          Check.read(x, c.repeat(7)), Character.isLetterOrDigit(c.charAt(0)) ? "1" : "fault 1 at 0");
    }
    check.due("9 lone signs are 9 words", Check.read(new NotationParse(), "(((((((((a)))))))))"), 1);
    check.due("8 letters and a digit are two words", Check.read(new NotationParse(), "abcdefgh1"), "fault 1 at 8");
    check.due("a word that is too long at the text's end",
        Check.read(new NotationParse(), " ".repeat(191) + "abcdefghi"), "fault 2 at 191");
    check.due("a word of 8 at the text's end", Check.read(new NotationParse(), " ".repeat(192) + "abcdefgh"), 1);
  }

  /** "A text has at most 30 words"; "a 31st word". */
  private static void atMost30Words() {
    NotationParse x = Check.sums();
    check.due("29 words", Check.read(x, "(".repeat(14) + "a" + ")".repeat(14)), 1);
    check.due("30 words", Check.read(x, "!" + "(".repeat(14) + "a" + ")".repeat(14)), 1);
    check.due("the first takes them all", x.node(0, 3), 30);
    check.due("31 words", Check.read(x, "(".repeat(15) + "a" + ")".repeat(15)), "fault 2 at 30");
    check.due("100 words", Check.read(x, "! ".repeat(99) + "a"), "fault 2 at 60");
    check.due("200 words", Check.read(x, "(".repeat(200)), "fault 2 at 30");
    check.due("spaces behind the 30th", Check.read(x, "! ".repeat(29) + "a" + " \n".repeat(70)), 1);
    check.due("a 31st word at the text's end",
        Check.read(x, "! ".repeat(29) + "a" + " ".repeat(140) + "b"), "fault 2 at 199");
    check.due("what is no word behind the 30th", Check.read(x, "! ".repeat(29) + "a \""), "fault 2 at 60");
  }

  /** "A NOTATION has a LEVEL 0 .. 9". */
  private static void levelsOfNotations() {
    for (int level = -2; level <= 12; level++) {
      NotationParse x = new NotationParse();
      Check.word(x, "f");
      int told = level;
      check.due("a notation of level " + level, () -> x.notation(told), level >= 0 && level <= 9 ? "0" : ARGUMENT);
    }
  }

  /** "and 1 to 6 PARTS". */
  private static void oneToSixParts() {
    check.due("no parts", () -> new NotationParse().notation(0), ARGUMENT);
    String[] parts = {"a", "_0", "b", "_0", "c", "_0"};
    String[] texts = {"a", "a x", "a x b", "a x b x", "a x b x c", "a x b x c x"};
    NotationParse all = new NotationParse();
    for (int n = 1; n <= 6; n++) {
      NotationParse x = new NotationParse();
      String row = String.join(" ", Arrays.copyOf(parts, n));
      check.due(n + " parts", Check.notation(x, 0, row), 0);
      check.due(n + " parts beside others", Check.notation(all, 0, row.replace("_0", "_9")), n - 1);
      check.due(n + " parts are read", Check.read(x, texts[n - 1]), 1);
      check.due("all of them", Check.node(x, 0), "0/" + n / 2 + "/0/" + n + "/-1");
    }
    for (int n = 1; n <= 6; n++) {
      check.due(n + " parts are read beside others", Check.read(all, texts[n - 1]), 1);
      check.due("by their own notation", all.node(0, 0), n - 1);
    }
    Check.notation(all, 0, "g _9");
    check.due("behind six parts", Check.read(all, "a x b x c x g"), "fault 1 at 12");
    check.due("a notation behind the one of six", Check.read(all, "g x"), 1);
    Check.parts(all, "a b c d e f");
    check.due("a seventh part", () -> Check.word(all, "g"), STATE);
  }

  /** "HOLES, each with a level 0 .. 10". */
  private static void levelsOfHoles() {
    for (int level = -2; level <= 12; level++) {
      NotationParse x = new NotationParse();
      int told = level;
      check.due("a hole of level " + level, () -> x.hole(told), level >= 0 && level <= 10 ? "1" : ARGUMENT);
    }
  }

  /** "two holes never stand side by side". */
  private static void noTwoHolesSideBySide() {
    NotationParse x = new NotationParse();
    for (int k = 1; k <= 5; k += 2) {
      check.due("a hole", x.hole(10), k);
      check.refused(x, "a hole beside part " + k, () -> x.hole(10), ARGUMENT);
      check.due("a word", Check.word(x, "-"), k + 1);
    }
    check.due("three holes, apart", x.notation(0), 0);
    check.due("are read", Check.read(x, "a-b-c-"), 1);
    check.due("as three nodes", x.node(0, 1), 3);
  }

  /** "one part is a word". */
  private static void onePartIsAWord() {
    NotationParse x = new NotationParse();
    x.hole(0);
    check.due("no word", () -> x.notation(0), ARGUMENT);
    check.due("a word and a hole", Check.notation(x, 0, "f _0"), 0);
    check.due("a hole and a word", Check.notation(x, 0, "_0 g"), 1);
    check.due("a word alone", Check.notation(x, 0, "h"), 2);
    check.due("words alone", Check.notation(x, 0, "h h h h h h"), 3);
    check.due("one word is read", Check.read(x, "h"), 1);
    check.due("six words are read", Check.read(x, "h h h h h h"), 1);
    check.due("five words are not", Check.read(x, "h h h h h"), "fault 1 at 9");
    check.due("nor seven", Check.read(x, "h h h h h h h"), "fault 1 at 12");
  }

  /** "( and ) are none of its words". */
  private static void bracketsAreNoWordsOfNotations() {
    NotationParse x = new NotationParse();
    x.hole(1);
    check.refused(x, "the word (", () -> Check.word(x, "("), ARGUMENT);
    check.refused(x, "the word )", () -> Check.word(x, ")"), ARGUMENT);
    check.due("the word [", () -> Check.word(x, "["), 2);
    check.due("the key (", Check.isKey(x, "("), false);
  }

  /** "an ATOM: a row of letters or digits that is no KEY". */
  private static void keysAreNoAtoms() {
    NotationParse x = new NotationParse();
    check.due("letters before they are a key", Check.read(x, "last"), 1);
    check.due("digits before they are a key", Check.read(x, "0"), 1);
    for (int i = 0; i < 11; i++) {
      Check.notation(x, 9, "- _0 + _0 * 0" + i);
    }
    Check.notation(x, 9, "- _0 + _0 * last");
    for (String key : new String[] {"00", "09", "010", "last"}) {
      check.due(key + " is no atom", Check.read(x, key), "fault 1 at 0");
      check.due(key + " is none in brackets", Check.read(x, "( " + key + " )"), "fault 1 at 2");
      check.due(key + " is a word of its notation", Check.read(x, "-a+b*" + key), 1);
    }
    for (String atom : new String[] {"0", "000", "0100", "las", "ast", "lasts", "Last", "LAST"}) {
      check.due(atom + " is an atom", Check.read(x, atom), 1);
    }
  }

  /** "A TERM of level l, l 0 .. 10, is an ATOM ..; or ( a TERM of level 0 )". */
  private static void atomsAndBracketsHaveEveryLevel() {
    for (int hole = 0; hole <= 10; hole++) {
      NotationParse x = new NotationParse();
      Check.notation(x, 0, "_" + hole + " f _" + hole + " f _" + hole);
      check.due("atoms at " + hole, Check.read(x, "a f 7 f Zz"), 1);
      check.due("brackets at " + hole, Check.read(x, "(a) f ((7)) f (a f a f a)"), 1);
    }
  }

  /** "the parts of a notation whose level is l or more". */
  private static void notationsOfTheLevelOrMore() {
    for (int own = 0; own <= 9; own++) {
      for (int hole = 0; hole <= 10; hole++) {
        NotationParse x = new NotationParse();
        Check.notation(x, 0, "_" + hole + " f _" + hole + " f _" + hole);
        Check.notation(x, own, "x");
        String where = "level " + own + " at " + hole + ", ";
        check.due(where + "first", Check.read(x, "x f a f a"), own >= hole ? "1" : "fault 1 at 2");
        check.due(where + "second", Check.read(x, "a f x f a"), own >= hole ? "1" : "fault 1 at 4");
        check.due(where + "last", Check.read(x, "a f a f x"), own >= hole ? "1" : "fault 1 at 8");
      }
    }
    NotationParse y = new NotationParse();
    for (int level = 0; level <= 9; level++) {
      String sign = "/".repeat(level % 8 + 1) + (level > 7 ? " ;" : "");
      Check.notation(y, level, "_" + Math.max(0, level - 1) + " " + sign);
    }
    Check.notation(y, 0, "f _9");
    Check.notation(y, 0, "k");
    check.due("levels that fall to 0 from hole to hole in front",
        Check.read(y, "f k / // /// //// ///// ////// /////// //////// / ; // ;"), 1);
    check.due("its nodes", y.about(3), 12);
  }

  /** "A TEXT is a TERM of level 0", and so is what stands in ( and ). */
  private static void aTextIsOfLevelZero() {
    for (int level = 0; level <= 9; level++) {
      NotationParse x = new NotationParse();
      Check.notation(x, level, "f _0");
      check.due("a text of level " + level, Check.read(x, "f a"), 1);
      check.due("brackets of level " + level, Check.read(x, "(f a)"), 1);
    }
  }

  /** "1 at the first word with which no text that has a tree .. begins". */
  private static void faultAtTheFirstWord() {
    NotationParse x = Check.sums();
    check.due("the first word of all", Check.read(x, "then"), "fault 1 at 0");
    check.due("the first behind spaces", Check.read(x, "\n\n  then"), "fault 1 at 4");
    check.due("the second", Check.read(x, "a then"), "fault 1 at 2");
    check.due("the 30th", Check.read(x, "! ".repeat(28) + "a if"), "fault 1 at 58");
    check.due("the last byte of 200", Check.read(x, "a" + " ".repeat(198) + "b"), "fault 1 at 199");
    check.due("the first of two", Check.read(x, "a b c"), "fault 1 at 2");
    check.due("a wrong level behind a right one", Check.read(x, "a + b * c + if"), "fault 1 at 12");
    check.due("a level that was too low is known at once", Check.read(x, "! a * b then"), "fault 1 at 8");
    NotationParse y = new NotationParse();
    Check.notation(y, 3, "_4 < _4");
    Check.notation(y, 4, "_5 - _4");
    check.due("no level can go on", Check.read(y, "a < b < c"), "fault 1 at 6");
    check.due("a lower one goes on", Check.read(y, "a - b < c - d"), 1);
  }

  /** "or at the end, the text's length, if there is none". */
  private static void faultAtTheEnd() {
    NotationParse x = Check.sums();
    check.due("the empty text", Check.read(x, ""), "fault 1 at 0");
    check.due("a space", Check.read(x, " "), "fault 1 at 1");
    check.due("200 spaces", Check.read(x, " ".repeat(200)), "fault 1 at 200");
    check.due("200 line ends", Check.read(x, "\n".repeat(200)), "fault 1 at 200");
    check.due("an end that comes too early", Check.read(x, "if a then"), "fault 1 at 9");
    check.due("with spaces behind", Check.read(x, "if a then  \n"), "fault 1 at 12");
    check.due("at 200 bytes", Check.read(x, " ".repeat(199) + "("), "fault 1 at 200");
    check.due("at 30 words", Check.read(x, "! ".repeat(30)), "fault 1 at 60");
  }

  /** ".. no text that has a tree, of any length, whatever stands behind, begins". */
  private static void textsOfAnyLengthBegin() {
    NotationParse x = Check.sums();
    check.due("no room for what closes 30 brackets", Check.read(x, "(".repeat(30)), "fault 1 at 30");
    check.due("nor for three more", Check.read(x, "(".repeat(16) + "a" + ")".repeat(13)), "fault 1 at 30");
    check.due("a 31st word is no fault 1", Check.read(x, "(".repeat(31)), "fault 2 at 30");
    check.due("no bytes for what closes a bracket", Check.read(x, "(a" + " ".repeat(198)), "fault 1 at 200");
    NotationParse y = new NotationParse();
    Check.notation(y, 0, "f _0 f _0 f _0");
    check.due("far more than 30 words to come", Check.read(y, "f ".repeat(30)), "fault 1 at 60");
    for (char c = 'a'; c <= 'k'; c++) {
      Check.notation(y, 0, c + " " + c + " " + c + " " + c + " " + c + " " + c);
    }
    check.due("atoms are never used up", Check.read(y, "f f"), "fault 1 at 3");
  }

  /** "2 what is no word, or a word that is too long, or a 31st word, at its first byte". */
  private static void faultTwoAtItsFirstByte() {
    NotationParse x = Check.sums();
    check.due("a byte that is no word", Check.read(x, "a + _"), "fault 2 at 4");
    check.due("a row of them", Check.read(x, "a + ___"), "fault 2 at 4");
    check.due("a mixed row of them", Check.read(x, "a + \"'\u00ff"), "fault 2 at 4");
    check.due("in the middle of letters", Check.read(x, "ab_cd"), "fault 2 at 2");
    check.due("all the 200 bytes", Check.read(x, "\u0000".repeat(200)), "fault 2 at 0");
    check.due("the 200th byte", Check.read(x, " ".repeat(199) + "\u0080"), "fault 2 at 199");
    check.due("a word too long", Check.read(x, "a +\n123456789"), "fault 2 at 4");
    check.due("a 31st word of more bytes", Check.read(x, "! ".repeat(30) + " abc"), "fault 2 at 61");
    check.due("the first of two", Check.read(x, "_ abcdefghi"), "fault 2 at 0");
    check.due("the first of the other two", Check.read(x, "abcdefghi _"), "fault 2 at 0");
  }

  /** "The one further to the left". */
  private static void theFaultFurtherLeft() {
    NotationParse x = Check.sums();
    check.due("1 ahead of what is no word", Check.read(x, "a a _"), "fault 1 at 2");
    check.due("what is no word ahead of 1", Check.read(x, "a _ a"), "fault 2 at 2");
    check.due("1 ahead of a word too long", Check.read(x, "+ abcdefghi"), "fault 1 at 0");
    check.due("a word too long ahead of 1", Check.read(x, "abcdefghi +"), "fault 2 at 0");
    check.due("1 ahead of the 31st word", Check.read(x, "+" + "(".repeat(30)), "fault 1 at 0");
    check.due("the 30th word ahead of the 31st", Check.read(x, "! ".repeat(29) + "+ a"), "fault 1 at 58");
    check.due("the end is behind all others", Check.read(x, "(a_"), "fault 2 at 2");
    check.due("what is no word behind a whole text", Check.read(x, "(a)_"), "fault 2 at 3");
  }

  /** "2 if both are at one place". */
  private static void faultTwoIfBothAreAtOnePlace() {
    NotationParse x = Check.sums();
    check.due("a word too long that could not stand", Check.read(x, "a abcdefghi"), "fault 2 at 2");
    check.due("signs too long that could not stand", Check.read(x, "+++++++++"), "fault 2 at 0");
    check.due("a 31st word that could not stand", Check.read(x, "! ".repeat(29) + "a then"), "fault 2 at 60");
    check.due("no word where the text could end", Check.read(x, "a _"), "fault 2 at 2");
    check.due("no word where no word at all could stand", Check.read(new NotationParse(), "a _"), "fault 2 at 2");
  }

  /** "THE TREE of a text that has just one". */
  private static void justOneTree() {
    NotationParse x = Check.sums();
    check.due("one tree", Check.read(x, "if a then (if b then c else d)"), 1);
    check.due("its nodes", x.about(3), 7);
    check.due("two trees", Check.read(x, "if a then if b then c else d"), 2);
    check.due("no nodes", x.about(3), 0);
    check.due("no first node", () -> x.node(0, 0), NO_ELEMENT);
    check.due("two trees within one", Check.read(x, "!(if a then if b then c else d)"), 2);
    check.due("no nodes of these either", x.about(3), 0);
    NotationParse y = new NotationParse();
    Check.notation(y, 0, "_0 + _0");
    Check.notation(y, 3, "_4 + _4");
    check.due("both at level 0", Check.read(y, "a + b"), 2);
    check.due("no node", () -> y.node(0, 0), NO_ELEMENT);
    Check.notation(y, 0, "[ _3 ]");
    check.due("one alone at level 3", Check.read(y, "[ a + b ]"), 1);
    check.due("is the one node", Check.node(y, 1), "1/2/2/3/0");
  }

  /** "numbered from 0 on as they begin". */
  private static void nodesAreNumberedAsTheyBegin() {
    NotationParse x = Check.sums();
    Check.read(x, "a * b + c * d");
    check.due("holders ahead of what they hold", Check.nodes(x), "0/2/0/7/-1 1/2/0/3/0 -1/0/0/1/1 -1/0/4/1/1 "
        + "1/2/8/3/0 -1/0/8/1/4 -1/0/12/1/4");
    Check.read(x, "a");
    check.due("one node", Check.nodes(x), "-1/0/0/1/-1");
  }

  /** "words, atoms, ( and ) with one space between two". */
  private static void oneSpaceBetweenTwo() {
    NotationParse x = Check.sums();
    for (String text : new String[] {"(a+b)*c", "\n( a\n+  b )  *   c \n", "( ( a + b ) ) * ( c )"}) {
      Check.read(x, text);
      check.due("the printed " + text, Check.printed(x), "( a + b ) * c");
    }
    Check.read(x, " a ");
    check.due("none around one", Check.printed(x), "a");
  }

  /** "( and ) stand around what fills a hole of a level above its own". */
  private static void bracketsAroundLowerLevels() {
    for (int own = 0; own <= 9; own++) {
      for (int hole = 0; hole <= 10; hole++) {
        NotationParse x = new NotationParse();
        Check.notation(x, 0, "_" + hole + " f _" + hole + " f _" + hole);
        Check.notation(x, own, "x");
        Check.read(x, "(x) f ((x)) f (((x)))");
        String due = own < hole ? "( x ) f ( x ) f ( x )" : "x f x f x";
        check.due("the printed level " + own + " at " + hole, Check.printed(x), due);
        Check.read(x, "((x))");
        check.due("the whole text's brackets", Check.printed(x), "x");
      }
    }
  }

  /** "an atom's own is 10". */
  private static void anAtomsOwnLevelIsTen() {
    NotationParse x = new NotationParse();
    Check.notation(x, 0, "_10 f _10 f _10");
    Check.read(x, "(a) f ((7)) f b");
    check.due("no brackets around atoms", Check.printed(x), "a f 7 f b");
    Check.notation(x, 9, "k");
    Check.read(x, "(a) f (k) f b");
    check.due("brackets around level 9", Check.printed(x), "a f ( k ) f b");
  }
}
