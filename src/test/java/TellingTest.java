/** Promises 1 to 6, 12 and 13: telling notations and texts. */
final class TellingTest {
  private static final String ARGUMENT = "throws.IllegalArgumentException";
  private static final String STATE = "throws.IllegalStateException";
  private static final String NO_ELEMENT = "throws.NoSuchElementException";
  private static final Check check = new Check("TellingTest");

  public static void main(String[] args) {
    newObject();
    hole();
    word();
    wordsThatAreNone();
    fullHand();
    notation();
    refusedNotations();
    twelveNotations();
    notationAndWhatWasRead();
    put();
    clear();
    isKey();
    about();
    objectsAreApart();
    check.end();
  }

  private static void newObject() {
    NotationParse x = new NotationParse();
    check.due("NONE", NotationParse.NONE, -1);
    for (int what = 0; what < 5; what++) {
      check.due("about of a new object", x.about(what), 0);
    }
    check.due("fault(0) of a new object", x.fault(0), 0);
    check.due("fault(1) of a new object", x.fault(1), -1);
    check.due("at(0) of a new object", x.at(0), -1);
    check.due("node of a new object", () -> x.node(0, 0), NO_ELEMENT);
    check.due("print of a new object", () -> x.print(), NO_ELEMENT);
    check.due("isKey of a new object", Check.isKey(x, "a"), false);
    check.due("a new object's empty text", Check.read(x, ""), "fault 1 at 0");
    check.due("an atom without notations", Check.read(x, "a"), 1);
    check.due("brackets without notations", Check.read(x, "((7))"), 1);
    check.due("a sign without notations", Check.read(x, "a+b"), "fault 1 at 1");
  }

  private static void hole() {
    NotationParse x = new NotationParse();
    check.due("hole(-1)", () -> x.hole(-1), ARGUMENT);
    check.due("hole(11)", () -> x.hole(11), ARGUMENT);
    check.due("hole(MIN)", () -> x.hole(Integer.MIN_VALUE), ARGUMENT);
    check.due("hole(MAX)", () -> x.hole(Integer.MAX_VALUE), ARGUMENT);
    check.due("parts after refused holes", x.about(1), 0);
    check.due("hole(0)", () -> x.hole(0), 1);
    check.due("a hole behind a hole", () -> x.hole(3), ARGUMENT);
    check.due("parts after a refused hole", x.about(1), 1);
    check.due("word behind a hole", () -> Check.word(x, "+"), 2);
    check.due("hole(10)", () -> x.hole(10), 3);
    check.due("the notation with holes 0 and 10", () -> x.notation(0), 0);
    check.due("a hole after a notation that ends in one", () -> x.hole(1), 1);
    check.due("reading with the holes told", Check.read(x, "a + b + c"), 1);
    check.due("the hole of level 10 takes no notation", Check.nodes(x),
        "0/2/0/5/-1 0/2/0/3/0 -1/0/0/1/1 -1/0/4/1/1 -1/0/8/1/0");
  }

  private static void word() {
    NotationParse x = new NotationParse();
    check.due("word of 1", () -> Check.word(x, "a"), 1);
    check.due("word of 8 letters", () -> Check.word(x, "AZazMmQq"), 2);
    check.due("word of 8 digits", () -> Check.word(x, "01234567"), 3);
    check.due("word of 8 signs", () -> Check.word(x, "!#$%&*+-"), 4);
    check.due("word of the other signs", () -> Check.word(x, "./:<=>?@"), 5);
    check.due("word of the last signs", () -> Check.word(x, "^|~"), 6);
    check.due("notation of six words", () -> x.notation(9), 0);
    for (String lone : new String[] {"[", "]", "{", "}", ",", ";"}) {
      check.due("the lone sign " + lone, () -> Check.word(x, lone), x.about(1) + 1);
    }
    check.due("notation of six lone signs", () -> x.notation(9), 1);
    check.due("words are read", Check.read(x, "a AZazMmQq 01234567 !#$%&*+- ./:<=>?@ ^|~"), 1);
    check.due("lone signs are read", Check.read(x, "[]{},;"), 1);
    check.due("bytes above the n are no matter", () -> x.word(0x6161616161612b2bL, 2), 1);
    check.due("and make no key", () -> x.notation(0), 2);
    check.due("the key of two bytes", Check.isKey(x, "++"), true);
    check.due("the key of two bytes, read", Check.read(x, "++"), 1);
  }

  private static void wordsThatAreNone() {
    NotationParse x = new NotationParse();
    check.due("n = 0", () -> x.word('a', 0), ARGUMENT);
    check.due("n = 9", () -> x.word('a', 9), ARGUMENT);
    check.due("n = -1", () -> x.word('a', -1), ARGUMENT);
    check.due("n = MIN", () -> x.word('a', Integer.MIN_VALUE), ARGUMENT);
    check.due("n = MAX", () -> x.word('a', Integer.MAX_VALUE), ARGUMENT);
    check.due("a byte 0 ahead", () -> x.word('a', 2), ARGUMENT);
    String[] none = {"(", ")", "((", "()", "[[", ",,", "a1", "1a", "a+", "+a", "1+", "+(", "a ", " a",
        " ", "\n", "\t", "\"", "'", "_", "`", "\\", "a_b", "\u0000", "\u007f", "\u0080", "\u00ff",
        "a\u00e4", "abcdefg1", "1abcdefg", "\u00ff\u00ff\u00ff\u00ff\u00ff\u00ff\u00ff\u00ff"};
    for (String word : none) {
      check.due("no word: " + word, () -> Check.word(x, word), ARGUMENT);
    }
    check.due("parts after refused words", x.about(1), 0);
    String signs = "!#$%&*+-./:<=>?@^|~[]{},;";
    for (int b = 0; b < 256; b++) {
      char c = (char) b;
      boolean plain = c >= 'a' && c <= 'z' || c >= 'A' && c <= 'Z' || c >= '0' && c <= '9';
      boolean fits = plain || signs.indexOf(c) >= 0;
      NotationParse y = new NotationParse();
      long bytes = b;
      check.due("the word of byte " + b, () -> y.word(bytes, 1), fits ? "1" : ARGUMENT);
    }
  }

  private static void fullHand() {
    NotationParse x = new NotationParse();
    Check.parts(x, "_1 a _2 b _3 c");
    check.due("six parts", x.about(1), 6);
    check.due("a seventh part, a hole", () -> x.hole(4), STATE);
    check.due("a seventh part, a word", () -> Check.word(x, "d"), STATE);
    check.due("a seventh part, a wrong hole", () -> x.hole(11), ARGUMENT);
    check.due("a seventh part, no word", () -> Check.word(x, "a1"), ARGUMENT);
    check.due("still six parts", x.about(1), 6);
    check.due("the six are a notation", () -> x.notation(0), 0);
    Check.parts(x, "a _1 b _2 c _3");
    check.due("a seventh part, a hole behind a hole", () -> x.hole(4), ARGUMENT);
    check.due("a seventh part, a word behind a hole", () -> Check.word(x, "d"), STATE);
  }

  private static void notation() {
    NotationParse x = new NotationParse();
    check.due("the first's number", Check.notation(x, 0, "nil"), 0);
    check.due("no parts in hand behind it", x.about(1), 0);
    check.due("the second's number", Check.notation(x, 9, "_0 ;"), 1);
    check.due("a notation of one word", Check.read(x, "nil"), 1);
    check.due("its node", Check.nodes(x), "0/0/0/1/-1");
    check.due("one at the end of another", Check.read(x, "nil;"), 1);
    check.due("its nodes", Check.nodes(x), "1/1/0/2/-1 0/0/0/1/0");
    check.due("the same parts once more", Check.notation(x, 0, "nil"), 2);
    check.due("two notations of the same parts", Check.read(x, "nil"), 2);
    NotationParse y = new NotationParse();
    Check.notation(y, 0, "f _1");
    Check.notation(y, 1, "g _0");
    check.due("a level below the hole's", Check.read(y, "f f a"), "fault 1 at 2");
    check.due("a level of the hole's", Check.read(y, "f g a"), 1);
    check.due("a level above the hole's", Check.read(y, "g f a"), 1);
  }

  private static void refusedNotations() {
    NotationParse x = new NotationParse();
    check.due("a notation of no parts", () -> x.notation(0), ARGUMENT);
    for (int level : new int[] {-1, 10, Integer.MIN_VALUE, Integer.MAX_VALUE}) {
      Check.parts(x, "a _0");
      check.due("notation(" + level + ")", () -> x.notation(level), ARGUMENT);
      check.due("its parts go", x.about(1), 0);
    }
    x.hole(3);
    check.due("a notation of a hole alone", () -> x.notation(0), ARGUMENT);
    check.due("its hole goes", x.about(1), 0);
    check.due("a hole after it", () -> x.hole(3), 1);
    check.due("a notation of that hole alone", () -> x.notation(0), ARGUMENT);
    check.due("no notations so far", x.about(0), 0);
    check.due("no key so far", Check.isKey(x, "a"), false);
    Check.parts(x, "a b c d e f");
    check.due("six words and a wrong level", () -> x.notation(10), ARGUMENT);
    check.due("what comes after them", Check.notation(x, 5, "g"), 0);
    check.due("has none of the old words", Check.read(x, "g b"), "fault 1 at 2");
    check.due("and is whole", Check.read(x, "g"), 1);
    Check.parts(x, "a _0 b _0 c _0");
    check.due("holes and a wrong level", () -> x.notation(-1), ARGUMENT);
    check.due("what comes after them", Check.notation(x, 5, "h"), 1);
    check.due("has none of the old holes", Check.read(x, "h z"), "fault 1 at 2");
  }

  private static void twelveNotations() {
    NotationParse x = new NotationParse();
    for (int i = 0; i < 12; i++) {
      check.due("notation " + i, Check.notation(x, 9, "" + (char) ('a' + i)), i);
    }
    Check.parts(x, "z _0");
    check.due("a 13th", () -> x.notation(0), STATE);
    check.due("its parts stay", x.about(1), 2);
    check.due("more parts come", () -> Check.word(x, "y"), 3);
    check.due("a 13th with more parts", () -> x.notation(0), STATE);
    check.due("its words are no keys", Check.isKey(x, "z"), false);
    check.due("its words are atoms", Check.read(x, "z"), 1);
    check.due("and no notation", Check.read(x, "z a"), "fault 1 at 2");
    check.due("a 13th of a wrong level", () -> x.notation(-1), ARGUMENT);
    check.due("its parts go", x.about(1), 0);
    check.due("a 13th of no parts", () -> x.notation(0), ARGUMENT);
    Check.parts(x, "_1 a _2 b _3 c");
    check.due("six parts beside 12 notations", () -> x.hole(0), STATE);
    check.due("12 notations", x.about(0), 12);
    check.due("the twelfth is read", Check.read(x, "(l)"), 1);
    check.due("its nodes", Check.nodes(x), "-2/1/0/3/-1 11/0/1/1/0");
  }

  private static void notationAndWhatWasRead() {
    NotationParse x = Check.sums();
    Check.read(x, "a + b");
    Check.printed(x);
    Check.parts(x, "_5 - _6");
    check.due("parts leave what was read", x.about(3), 3);
    check.due("a notation of a wrong level", () -> x.notation(10), ARGUMENT);
    check.due("leaves what was read", x.about(3), 3);
    check.due("a notation", Check.notation(x, 5, "_5 - _6"), 5);
    check.due("what was read goes", x.about(3), 0);
    check.due("no node", () -> x.node(0, 0), NO_ELEMENT);
    check.due("no tree to print", () -> x.print(), NO_ELEMENT);
    check.due("the output stays", Check.output(x), "a + b");
    check.due("the text stays", x.about(2), 5);
    check.due("it is read again", () -> x.read(), 1);
    check.due("its nodes are there again", x.about(3), 3);
    NotationParse y = Check.sums();
    Check.read(y, "a +");
    Check.notation(y, 5, "_5 - _6");
    check.due("the latest read's fault stays", y.fault(0), 1);
    check.due("and its place", y.fault(1), 3);
  }

  private static void put() {
    NotationParse x = new NotationParse();
    check.due("put of 0 bytes", x.put('a', 0), false);
    check.due("put of 9 bytes", x.put('a', 9), false);
    check.due("put of -1 bytes", x.put('a', -1), false);
    check.due("put of MIN bytes", x.put('a', Integer.MIN_VALUE), false);
    check.due("put of MAX bytes", x.put('a', Integer.MAX_VALUE), false);
    check.due("no bytes came", x.about(2), 0);
    check.due("put of the highest first", x.put(Check.code("xyz(ab"), 3), true);
    check.due("three came", x.about(2), 3);
    check.due("put of 8", x.put(Check.code(")       "), 8), true);
    check.due("eleven bytes", x.about(2), 11);
    check.due("they are read in order", () -> x.read(), 1);
    check.due("the word in them", Check.node(x, 1), "-1/0/1/1/0");
    check.due("printed", Check.printed(x), "ab");
    x.clear();
    for (int i = 0; i < 24; i++) {
      check.due("put " + i, x.put(Check.code("        "), 8), true);
    }
    check.due("192 bytes", x.about(2), 192);
    check.due("one byte", x.put(' ', 1), true);
    check.due("eight more are too many", x.put(Check.code("aaaaaaaa"), 8), false);
    check.due("none of them came", x.about(2), 193);
    check.due("seven more", x.put(Check.code("      z"), 7), true);
    check.due("200 bytes", x.about(2), 200);
    check.due("one more is too many", x.put('z', 1), false);
    check.due("the last byte is read", () -> x.read(), 1);
    check.due("at its place", x.node(0, 2), 199);
    check.due("any byte may come", Check.text(x, "\u0000\u00ff\u0080\t"), true);
    check.due("and stands in the text", x.about(2), 4);
  }

  private static void clear() {
    NotationParse x = Check.sums();
    Check.read(x, "a * (b + c)");
    Check.printed(x);
    String nodes = Check.nodes(x);
    x.clear();
    check.due("no bytes", x.about(2), 0);
    check.due("what was read stays", Check.nodes(x), nodes);
    check.due("the output stays", Check.output(x), "a * ( b + c )");
    check.due("no fault still", x.fault(0), 0);
    x.put('z', 1);
    check.due("the read text is printed, not the new one", Check.printed(x), "a * ( b + c )");
    check.due("notations stay", x.about(0), 5);
    x.clear();
    x.hole(1);
    x.clear();
    check.due("parts in hand stay", x.about(1), 1);
    check.due("the empty text has no tree", () -> x.read(), ARGUMENT);
    check.due("its fault", x.fault(0), 1);
    check.due("its fault's place", x.fault(1), 0);
    x.put('z', 1);
    x.clear();
    check.due("the fault is of the latest read", x.fault(0), 1);
  }

  private static void isKey() {
    NotationParse x = Check.sums();
    for (String key : new String[] {"+", "*", "!", "if", "then", "else"}) {
      check.due("isKey " + key, Check.isKey(x, key), true);
    }
    for (String none : new String[] {"(", ")", "-", "i", "iff", "++", "IF", "a", "", "+ ", " +"}) {
      check.due("isKey " + none, Check.isKey(x, none), false);
    }
    check.due("isKey of 0 bytes", x.isKey('+', 0), false);
    check.due("isKey of 9 bytes", x.isKey('+', 9), false);
    check.due("isKey of MIN bytes", x.isKey('+', Integer.MIN_VALUE), false);
    check.due("isKey with a byte 0 ahead", x.isKey('+', 2), false);
    check.due("isKey of no bytes at all", x.isKey(0L, 1), false);
    check.due("isKey of bytes 255", x.isKey(-1L, 8), false);
    check.due("bytes above the n are no matter", x.isKey(Check.code("abc+"), 1), true);
    Check.parts(x, "new _0");
    check.due("words in hand are no keys", Check.isKey(x, "new"), false);
    check.due("and are atoms", Check.read(x, "new"), 1);
    x.notation(3);
    check.due("words of notations are", Check.isKey(x, "new"), true);
    check.due("and are no atoms", Check.read(x, "new"), "fault 1 at 3");
    check.due("eight bytes", Check.notation(x, 3, "abcdefgh"), 6);
    check.due("the key of eight bytes", Check.isKey(x, "abcdefgh"), true);
    check.due("not its seven last", Check.isKey(x, "bcdefgh"), false);
    check.due("keys of digits are no atoms", Check.notation(x, 9, "42"), 7);
    check.due("keys of digits are read", Check.read(x, "42 + 42"), 1);
    check.due("as notations", x.node(1, 0), 7);
  }

  private static void about() {
    NotationParse x = Check.sums();
    x.hole(0);
    Check.read(x, "a+b");
    Check.printed(x);
    check.due("notations", x.about(0), 5);
    check.due("parts in hand", x.about(1), 1);
    check.due("bytes of the text", x.about(2), 3);
    check.due("nodes of the tree", x.about(3), 3);
    check.due("bytes of the output", x.about(4), 5);
    for (int what : new int[] {-1, 5, Integer.MIN_VALUE, Integer.MAX_VALUE}) {
      check.due("about(" + what + ")", x.about(what), -1);
    }
  }

  private static void objectsAreApart() {
    NotationParse x = Check.sums();
    NotationParse y = new NotationParse();
    Check.notation(y, 0, "_0 + _0");
    check.due("one object's trees", Check.read(x, "a + b + c"), 1);
    check.due("the other's", Check.read(y, "a + b + c"), 2);
    check.due("the one's nodes", x.about(3), 5);
    check.due("the other's nodes", y.about(3), 0);
  }
}
