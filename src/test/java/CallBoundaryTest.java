/** The edges that the document's promises name, a sentence to a method. */
final class CallBoundaryTest {
  private static final String ARGUMENT = "throws.IllegalArgumentException";
  private static final String STATE = "throws.IllegalStateException";
  private static final String NO_ELEMENT = "throws.NoSuchElementException";
  private static final int MIN = Integer.MIN_VALUE;
  private static final int MAX = Integer.MAX_VALUE;
  // Numbers that are 1 to 8 in their lowest bits, and others that are not.
  private static final int[] WRONG_LENGTHS =
      {0, 9, 10, 16, 64, 65, 257, 65537, 268435457, -1, -8, -255, MIN, MIN + 1, MAX};
  private static final Check check = new Check("CallBoundaryTest");

  public static void main(String[] args) {
    newObject();
    holeLevels();
    holeBehindAHole();
    holeBesideSixParts();
    wordLengths();
    wordsThatAreNone();
    wordBesideSixParts();
    notationLevels();
    notationWithoutAWord();
    thirteenthNotation();
    whatWasReadGoes();
    putLengths();
    putMoreThan200();
    clearOfAnything();
    aMillionTrees();
    treesThatWrapAround();
    readOfAFault();
    faultOfNoRead();
    faultOfAnotherWhat();
    nodeOfAnotherNumber();
    nodeOfAnotherWhat();
    nodeWithoutJustOneTree();
    printWithoutATree();
    theLongestOutput();
    atOutsideTheOutput();
    isKeyOfNoWord();
    isKeyOfPartsInHand();
    aboutAnotherWhat();
    allIsFull();
    partsInHandAreNotRead();
    check.end();
  }

  /** Promise 1: "No notations, no parts in hand, no text". */
  private static void newObject() {
    NotationParse x = new NotationParse();
    check.due("a new object", Check.state(x), "0 0 0 0 0 fault 0 at -1; ; ");
    for (int b = 0; b < 256; b++) {
      check.due("no key of byte " + b, x.isKey(b, 1), false);
    }
    check.refused(x, "no parts to make a notation of", () -> x.notation(0), ARGUMENT);
    check.refused(x, "no tree to print", () -> x.print(), NO_ELEMENT);
    check.refused(x, "no node", () -> x.node(0, 0), NO_ELEMENT);
    check.due("no hole stands ahead", () -> x.hole(0), 1);
    check.due("no text to read", () -> x.read(), ARGUMENT);
    check.due("its place", x.fault(1), 0);
  }

  /** Promise 2: "level is not 0 .. 10". */
  private static void holeLevels() {
    NotationParse x = Check.sums();
    for (int level : new int[] {-1, 11, -11, 256, 266, 65536, MIN, MIN + 10, MAX}) {
      check.refused(x, "hole(" + level + ")", () -> x.hole(level), ARGUMENT);
    }
    check.due("hole(0) behind them", () -> x.hole(0), 1);
    Check.word(x, "k");
    check.refused(x, "hole(11) behind a word", () -> x.hole(11), ARGUMENT);
    check.due("hole(10) behind them", () -> x.hole(10), 3);
  }

  /** Promise 2: "or a hole stands just ahead". */
  private static void holeBehindAHole() {
    NotationParse x = new NotationParse();
    x.hole(5);
    check.refused(x, "a hole behind a first hole", () -> x.hole(5), ARGUMENT);
    check.refused(x, "once more", () -> x.hole(0), ARGUMENT);
    check.refused(x, "a refused word leaves the hole there", () -> Check.word(x, "("), ARGUMENT);
    check.refused(x, "and so a hole is still refused", () -> x.hole(0), ARGUMENT);
    x.clear();
    check.refused(x, "behind a clear too", () -> x.hole(0), ARGUMENT);
    check.due("a word between", () -> Check.word(x, "f"), 2);
    check.due("a hole behind a word", () -> x.hole(5), 3);
    check.refused(x, "a hole behind a third part", () -> x.hole(5), ARGUMENT);
    check.due("the notation", () -> x.notation(0), 0);
    check.due("a hole behind a notation that ends in one", () -> x.hole(5), 1);
    check.due("the hole goes with a refused notation", () -> x.notation(0), ARGUMENT);
    check.due("a hole may stand there again", () -> x.hole(5), 1);
    NotationParse y = twelve();
    Check.parts(y, "f _0");
    check.refused(y, "a 13th notation", () -> y.notation(0), STATE);
    check.refused(y, "its hole stayed", () -> y.hole(0), ARGUMENT);
  }

  /** Promise 2: "IllegalStateException: there are 6". */
  private static void holeBesideSixParts() {
    NotationParse x = new NotationParse();
    Check.parts(x, "a b c d e");
    check.due("a sixth part", () -> x.hole(0), 6);
    check.due("six parts are taken", () -> x.notation(0), 0);
    Check.parts(x, "a b c d e f");
    check.refused(x, "a seventh part", () -> x.hole(0), STATE);
    check.refused(x, "once more", () -> x.hole(10), STATE);
    check.refused(x, "one of a wrong level", () -> x.hole(-1), ARGUMENT);
    check.due("the six are a notation", () -> x.notation(0), 1);
    check.due("of six words", Check.read(x, "a b c d e f"), 1);
    check.due("by the second", x.node(0, 0), 1);
    check.due("a hole may come again", () -> x.hole(0), 1);
    NotationParse y = new NotationParse();
    Check.parts(y, "a b c d e _0");
    check.refused(y, "a hole behind a sixth that is one", () -> y.hole(0), ARGUMENT);
  }

  /** Promise 3: "n is not 1 .. 8". */
  private static void wordLengths() {
    NotationParse x = Check.sums();
    for (int n : WRONG_LENGTHS) {
      check.refused(x, "word of " + n + " bytes", () -> x.word(Check.code("aaaaaaaa"), n), ARGUMENT);
    }
    for (int n = 1; n <= 6; n++) {
      int length = n;
      check.due("word of " + n + " bytes", () -> x.word(Check.code("aaaaaaaa"), length), n);
    }
    x.notation(0);
    check.due("word of 7 bytes", () -> x.word(Check.code("aaaaaaaa"), 7), 1);
    check.due("word of 8 bytes", () -> x.word(Check.code("aaaaaaaa"), 8), 2);
    x.notation(0);
    check.due("each has its length", Check.read(x, "a aa aaa aaaa aaaaa aaaaaa"), 1);
    check.due("to the longest", Check.read(x, "aaaaaaa aaaaaaaa"), 1);
  }

  /** Promise 3: "or it is no word, or ( or )". */
  private static void wordsThatAreNone() {
    NotationParse x = Check.sums();
    String[] none = {"(", ")", "[]", "((", ",;", "a1", "1a", "a+", "+a", "+1", "1+", "[a", "a]", " ", "\n", " a", "a ",
        "a b", "_", "\"", "'", "`", "\\", "\t", "\r", "\u0000", "\u0000a", "a\u0000", "\u007f", "\u0080", "\u00e1",
        "\u00ff", "abcdefg1", "1abcdefg", "abc1defg", "+++++++(", "(+++++++", "aaaaaaa\u00e1", "\u00e1aaaaaaa",
        "a\u00c1", "\u00ff\u00ff\u00ff\u00ff\u00ff\u00ff\u00ff\u00ff"};
    for (String word : none) {
      check.refused(x, "the word " + word, () -> Check.word(x, word), ARGUMENT);
    }
    check.due("the next to them", () -> Check.word(x, "["), 1);
  }

  /** Promise 3: "IllegalStateException: there are 6". */
  private static void wordBesideSixParts() {
    NotationParse x = new NotationParse();
    Check.parts(x, "_0 a _0 b _0");
    check.due("a sixth part", () -> Check.word(x, "c"), 6);
    check.refused(x, "a seventh part", () -> Check.word(x, "d"), STATE);
    check.refused(x, "the sixth once more", () -> Check.word(x, "c"), STATE);
    check.refused(x, "a seventh that is no word", () -> Check.word(x, "("), ARGUMENT);
    check.refused(x, "a seventh of 9 bytes", () -> x.word('d', 9), ARGUMENT);
    check.due("the six are a notation", () -> x.notation(0), 0);
    check.due("no seventh is a key", Check.isKey(x, "d"), false);
    check.due("of six parts", Check.read(x, "d a d b d c"), 1);
  }

  /** Promise 4: "level is not 0 .. 9 .. (the parts go)". */
  private static void notationLevels() {
    NotationParse x = Check.sums();
    Check.read(x, "(a+b)*c");
    Check.printed(x);
    String before = Check.state(x);
    for (int level : new int[] {-1, 10, 11, 256, 65545, MIN, MIN + 9, MAX}) {
      Check.parts(x, "_0 k _0 l _0 m");
      check.due("notation(" + level + ")", () -> x.notation(level), ARGUMENT);
      check.due("its parts go, all else stays", Check.state(x), before);
      check.due("no new key", Check.isKey(x, "k"), false);
    }
    check.due("notation(0) behind them", Check.notation(x, 0, "k"), 5);
    check.due("notation(9) behind them", Check.notation(x, 9, "l"), 6);
    check.due("notation(5) behind them", Check.notation(x, 5, "n n"), 7);
    check.due("no old word comes back", Check.read(x, "k k"), "fault 1 at 2");
    check.due("nor another", Check.read(x, "k l"), "fault 1 at 2");
    Check.parts(x, "a b _0 c _0 d");
    check.due("a notation with holes to go", () -> x.notation(-1), ARGUMENT);
    check.due("notation(0) behind it", Check.notation(x, 0, "o o"), 8);
    check.due("no old hole comes back", Check.read(x, "o o a"), "fault 1 at 4");
    Check.parts(x, "a b c d");
    check.due("a notation with words to go", () -> x.notation(10), ARGUMENT);
    check.due("notation(0) behind it too", Check.notation(x, 0, "p p"), 9);
    check.due("no old word comes back at its place", Check.read(x, "p p c"), "fault 1 at 4");
  }

  /** Promise 4: "or no part is a word (the parts go, in both cases)". */
  private static void notationWithoutAWord() {
    NotationParse x = Check.sums();
    Check.read(x, "(a+b)*c");
    String before = Check.state(x);
    for (int level : new int[] {0, 9, -1, 10}) {
      check.due("no parts, level " + level, () -> x.notation(level), ARGUMENT);
      check.due("all stays", Check.state(x), before);
      x.hole(10);
      check.due("a hole alone, level " + level, () -> x.notation(level), ARGUMENT);
      check.due("the hole goes, all else stays", Check.state(x), before);
    }
    check.due("words of a notation before are no matter", Check.notation(x, 9, "k l"), 5);
    x.hole(0);
    check.due("a hole alone behind it", () -> x.notation(0), ARGUMENT);
    check.due("the word last", Check.notation(x, 0, "_0 m"), 6);
    check.due("the word first", Check.notation(x, 0, "m _0"), 7);
  }

  private static NotationParse twelve() {
    NotationParse x = new NotationParse();
    for (int i = 0; i < 12; i++) {
      String parts = "_10 " + "/".repeat(1 + i / 2) + (i % 2 == 0 ? "" : " _10");
      check.due("the number " + i, Check.notation(x, 9, parts), i);
    }
    return x;
  }

  /** Promise 4: "IllegalStateException: there are 12 notations (the parts stay)". */
  private static void thirteenthNotation() {
    NotationParse x = twelve();
    check.due("the twelfth is read", Check.read(x, "a//////b"), 1);
    check.due("by its number", x.node(0, 0), 11);
    check.refused(x, "a 13th without parts", () -> x.notation(0), ARGUMENT);
    Check.parts(x, "_1 a _2 b _3 c");
    check.refused(x, "a 13th", () -> x.notation(0), STATE);
    check.refused(x, "a 13th once more", () -> x.notation(9), STATE);
    check.due("what was read stays", x.about(3), 3);
    check.due("no key of the 13th", Check.isKey(x, "a"), false);
    check.refused(x, "its six parts are still there", () -> Check.word(x, "d"), STATE);
    check.due("a 13th of a wrong level", () -> x.notation(10), ARGUMENT);
    check.due("its parts go", x.about(1), 0);
    x.hole(3);
    check.due("a 13th of a hole alone", () -> x.notation(0), ARGUMENT);
    check.due("its hole goes", x.about(1), 0);
    check.due("12 notations", x.about(0), 12);
    check.due("all of them as before", Check.read(x, "(a/)//b"), 1);
    check.due("to their nodes", Check.nodes(x), "3/2/0/6/-1 -2/1/0/4/0 0/1/1/2/1 -1/0/1/1/2 -1/0/6/1/0");
  }

  /** Promise 4: "What was read goes". */
  private static void whatWasReadGoes() {
    NotationParse x = Check.sums();
    Check.read(x, "a+b");
    Check.printed(x);
    check.due("parts in hand take nothing away", x.hole(0) + Check.word(x, "k") + x.about(3), 6);
    check.due("a notation", () -> x.notation(0), 5);
    check.due("no nodes", x.about(3), 0);
    check.refused(x, "no node", () -> x.node(0, 4), NO_ELEMENT);
    check.refused(x, "no tree to print", () -> x.print(), NO_ELEMENT);
    check.due("the text is still there", () -> x.read(), 1);
    check.due("nodes again", x.about(3), 3);
    for (int i = 6; i < 12; i++) {
      Check.notation(x, 9, "k" + (char) ('a' + i));
    }
    check.due("none behind the twelfth", x.about(3), 0);
  }

  /** Promise 5: "whether n is 1 .. 8". */
  private static void putLengths() {
    NotationParse x = Check.sums();
    Check.read(x, "a+b");
    for (int n : WRONG_LENGTHS) {
      check.refused(x, "put of " + n + " bytes", () -> x.put(Check.code("cccccccc"), n), false);
    }
    check.due("the text is as before", () -> x.read(), 1);
    x.clear();
    int bytes = 0;
    for (int n = 1; n <= 8; n++) {
      check.due("put of " + n + " bytes", x.put(Check.code("(+fedcb "), n), true);
      bytes += n;
      check.due("all of them come", x.about(2), bytes);
    }
    Check.notation(x, 0, "b cb dcb edcb fedcb +");
    check.due("the lowest bytes, the highest of them first", () -> x.read(), ARGUMENT);
    check.due("are read to the sixth put", x.fault(1), 22);
  }

  /** Promise 5: "and it has no more than 200 then". */
  private static void putMoreThan200() {
    for (int n = 1; n <= 8; n++) {
      NotationParse x = new NotationParse();
      int length = n;
      Check.text(x, " ".repeat(200 - n));
      check.due(n + " bytes to 200", x.put(Check.code("aaaaaaaa"), n), true);
      check.due("200 bytes", x.about(2), 200);
      check.due("they are read", () -> x.read(), 1);
      check.due("in their place", x.node(0, 2), 200 - n);
      check.refused(x, "200 and " + n, () -> x.put(Check.code("bbbbbbbb"), length), false);
      Check.text(x, " ".repeat(201 - n));
      check.refused(x, n + " bytes to 201", () -> x.put(Check.code("aaaaaaaa"), length), false);
      check.due("none of them came", () -> x.read(), ARGUMENT);
      check.due("not even the first", x.fault(1), 201 - n);
      check.refused(x, "200 and MAX", () -> x.put(0L, MAX), false);
      x.clear();
      check.due("room again", x.put(Check.code("aaaaaaaa"), n), true);
      check.due("for " + n, x.about(2), n);
    }
  }

  /** Promise 6: "The text is empty", whatever it was. */
  private static void clearOfAnything() {
    NotationParse x = Check.sums();
    x.clear();
    check.due("clear of an empty text", x.about(2), 0);
    check.due("an empty text is no term", () -> x.read(), ARGUMENT);
    Check.text(x, "a".repeat(200));
    x.clear();
    check.due("clear of a full text", x.about(2), 0);
    x.clear();
    check.due("clear once more", x.about(2), 0);
    check.due("none of the old bytes", Check.read(x, "b"), 1);
    check.due("only the new one", x.node(0, 3), 1);
    for (int i = 0; i < 3; i++) {
      check.due("filled again", Check.text(x, "a" + " ".repeat(199)), true);
      check.due("and read again", () -> x.read(), 1);
    }
  }

  /** Two words that make 2 n + 1 and 2 n + 2 trees of n, and one of two: any number can be told. */
  private static NotationParse numbers() {
    NotationParse x = new NotationParse();
    for (int i = 0; i < 2; i++) {
      Check.notation(x, 0, "I _0");
      Check.notation(x, 0, "II _0");
    }
    Check.notation(x, 0, "II _5");
    Check.notation(x, 5, "I _5");
    Check.notation(x, 5, "II _5");
    Check.notation(x, 0, "two");
    Check.notation(x, 5, "two");
    return x;
  }

  private static String number(long n) {
    StringBuilder words = new StringBuilder();
    long rest = n;
    while (rest > 2) {
      words.append(rest % 2 == 0 ? "II " : "I ");
      rest = (rest - 1) / 2;
    }
    return words.append(rest == 2 ? "two" : "one").toString();
  }

  /** Promise 7: "how many trees it has, 1000000 if they are as many or more". */
  private static void aMillionTrees() {
    NotationParse x = numbers();
    long[] numbers = {1, 2, 3, 4, 5, 10, 127, 128, 255, 256, 32767, 32768, 65535, 65536, 99999, 499999, 500000, 500001,
        999998, 999999, 1000000, 1000001, 1999999, 2000000, 2000001, 16777216, 536870911};
    for (long n : numbers) {
      check.due("a text of " + n + " trees", Check.read(x, number(n)), Math.min(n, 1000000));
      check.due("has one tree or none", x.about(3) > 0, n == 1);
      check.due("and no fault", x.fault(0), 0);
    }
  }

  /** Promise 7 where a count would wrap around: 2 to the 31st, 32nd, 63rd, 64th and beyond. */
  private static void treesThatWrapAround() {
    NotationParse x = new NotationParse();
    Check.notation(x, 0, "II _0");
    Check.notation(x, 0, "II _0");
    for (int i = 0; i < 8; i++) {
      Check.notation(x, 0, "VIII _0");
    }
    int[][] powers = {{0, 6}, {1, 6}, {1, 10}, {2, 10}, {0, 11}, {2, 20}, {0, 21}, {1, 21}, {2, 21}, {4, 24}, {0, 29}};
    for (int[] power : powers) {
      String text = "II ".repeat(power[0]) + "VIII ".repeat(power[1]) + "a";
      int bits = power[0] + 3 * power[1];
      check.due("2 to the " + bits, Check.read(x, text), bits < 20 ? 1 << bits : 1000000);
    }
    NotationParse y = new NotationParse();
    for (int i = 0; i < 12; i++) {
      Check.notation(y, 0, "_0 + _0 + _0");
    }
    check.due("very many", Check.read(y, "a" + "+a".repeat(14)), 1000000);
    check.due("of one and the same row", Check.read(y, "a+a+a"), 12);
  }

  /** Promise 7: "IllegalArgumentException: a FAULT (nothing is read then)". */
  private static void readOfAFault() {
    for (String text : new String[] {"", " ", "a+", "a b", "a _", "abcdefghi", "! ".repeat(30) + "a"}) {
      NotationParse x = Check.sums();
      Check.read(x, "a+b");
      Check.printed(x);
      Check.text(x, text);
      check.due("read of " + text, () -> x.read(), ARGUMENT);
      check.due("nothing is read", x.about(3), 0);
      check.refused(x, "no node", () -> x.node(0, 0), NO_ELEMENT);
      check.refused(x, "nothing to print", () -> x.print(), NO_ELEMENT);
      check.refused(x, "the same once more", () -> x.read(), ARGUMENT);
      check.due("the text stays", x.about(2), text.length());
      check.due("the output stays", Check.output(x), "a + b");
      check.due("a better text", Check.read(x, "c"), 1);
    }
  }

  /** Promise 8: "its FAULT (what = 0; 0 without), the place (1; NONE without)". */
  private static void faultOfNoRead() {
    NotationParse x = Check.sums();
    check.due("no fault before a read", x.fault(0), 0);
    check.due("no place before a read", x.fault(1), -1);
    Check.text(x, "a b");
    check.due("no fault of a text not yet read", x.fault(0), 0);
    check.due("a fault of notations", Check.read(x, "+"), "fault 1 at 0");
    check.due("a fault of words", Check.read(x, "a _"), "fault 2 at 2");
    check.due("without", Check.read(x, "a"), 1);
    check.due("no fault", x.fault(0), 0);
    check.due("no place", x.fault(1), -1);
    check.due("nor with two trees", Check.read(x, "if a then if b then c else d"), 2);
    check.due("no fault of them", x.fault(0), 0);
    check.due("no place of them", x.fault(1), -1);
    check.due("the place 200", Check.read(x, " ".repeat(200)), "fault 1 at 200");
    x.clear();
    check.due("of the latest read, not of the text", x.fault(1), 200);
  }

  /** Promise 8: "NONE for another what". */
  private static void faultOfAnotherWhat() {
    NotationParse x = Check.sums();
    for (String text : new String[] {"a", "a b"}) {
      Check.read(x, text);
      for (int what : new int[] {-1, 2, 3, 256, 65537, MIN, MIN + 1, MAX}) {
        check.due("fault(" + what + ")", x.fault(what), -1);
      }
    }
  }

  /** Promise 9: "NoSuchElementException: no such node". */
  private static void nodeOfAnotherNumber() {
    NotationParse x = Check.sums();
    int size = 1;
    for (String text : new String[] {"a", "(a)", "a+b", "(a+b)", "! ".repeat(29) + "a"}) {
      Check.read(x, text);
      size = x.about(3);
      check.due("the last node", x.node(size - 1, 1), 0);
      check.due("the first node's holder", x.node(0, 4), -1);
      for (int i : new int[] {-1, size, size + 1, 31, 256, 65536, MIN, MIN + 1, MAX}) {
        for (int what : new int[] {0, 1, 2, 3, 4, 5, -1}) {
          check.refused(x, "node(" + i + ", " + what + ")", () -> x.node(i, what), NO_ELEMENT);
        }
      }
    }
    check.due("30 nodes", size, 30);
    Check.read(x, "a");
    check.refused(x, "a node of an older tree", () -> x.node(1, 0), NO_ELEMENT);
  }

  /** Promise 9: "NONE - 2 for another what". */
  private static void nodeOfAnotherWhat() {
    NotationParse x = Check.sums();
    Check.read(x, "(a+b)");
    for (int i = 0; i < 4; i++) {
      for (int what : new int[] {-1, 5, 6, 256, 65537, MIN, MIN + 1, MAX}) {
        check.due("node(" + i + ", " + what + ")", x.node(i, what), -3);
      }
    }
  }

  /** Promise 9: "none without just one tree". */
  private static void nodeWithoutJustOneTree() {
    NotationParse x = Check.sums();
    check.refused(x, "before a read", () -> x.node(0, 0), NO_ELEMENT);
    Check.text(x, "a");
    check.refused(x, "of a text not yet read", () -> x.node(0, 0), NO_ELEMENT);
    check.due("one tree", () -> x.read(), 1);
    check.due("its node", () -> x.node(0, 0), -1);
    Check.read(x, "if a then if b then c else d");
    check.refused(x, "of two trees", () -> x.node(0, 0), NO_ELEMENT);
    check.refused(x, "of two trees, another what", () -> x.node(0, 7), NO_ELEMENT);
    Check.read(x, "a");
    Check.read(x, "a b");
    check.refused(x, "of none", () -> x.node(0, 0), NO_ELEMENT);
    Check.notation(x, 0, "_0 k _0");
    Check.read(x, "a" + " k a".repeat(14));
    check.refused(x, "of a million", () -> x.node(0, 0), NO_ELEMENT);
  }

  /** Promise 10: "NoSuchElementException: there is none". */
  private static void printWithoutATree() {
    NotationParse x = Check.sums();
    check.refused(x, "before a read", () -> x.print(), NO_ELEMENT);
    Check.text(x, "a");
    check.refused(x, "of a text not yet read", () -> x.print(), NO_ELEMENT);
    Check.read(x, "a+b");
    check.due("of one tree", Check.printed(x), "a + b");
    check.refused(x, "once more", () -> x.print(), 5);
    Check.read(x, "if a then if b then c else d");
    check.refused(x, "of two trees", () -> x.print(), NO_ELEMENT);
    check.due("the output is the old one", Check.output(x), "a + b");
    Check.read(x, "a b");
    check.refused(x, "of none", () -> x.print(), NO_ELEMENT);
    Check.read(x, "c");
    check.due("not printed before print", Check.output(x), "a + b");
    Check.notation(x, 0, "k");
    check.refused(x, "of a tree that went", () -> x.print(), NO_ELEMENT);
    check.due("the output stays the old one", Check.output(x), "a + b");
  }

  /** 30 words of 200 bytes with no space between them. */
  private static NotationParse wide() {
    NotationParse x = new NotationParse();
    Check.notation(x, 9, "++++++++ _10");
    Check.notation(x, 1, "_1 ***** _2");
    Check.notation(x, 1, "_1 ****** _2");
    return x;
  }

  private static final String WIDE_TEXT =
      "++++++++abcdefgh" + "******abcdefgh".repeat(2) + "*****abcdefgh".repeat(12);

  /** Promise 10: "how many bytes", at the most there can be. */
  private static void theLongestOutput() {
    NotationParse x = wide();
    check.due("200 bytes", WIDE_TEXT.length(), 200);
    check.due("are read", Check.read(x, WIDE_TEXT), 1);
    check.due("as 30 words", x.node(0, 3), 30);
    check.due("229 bytes are printed", () -> x.print(), 229);
    String spaced = WIDE_TEXT.replaceAll("(\\*+|\\++)", " $1 ").trim();
    check.due("each of them", Check.output(x), spaced);
    check.due("the last", x.at(228), (int) 'h');
    check.due("none behind it", x.at(229), -1);
    check.due("the shortest", Check.read(x, "(a)"), 1);
    check.due("is one byte", () -> x.print(), 1);
    check.due("the byte", x.at(0), (int) 'a');
    check.due("no old byte behind it", x.at(1), -1);
  }

  /** Promise 11: "NONE if there is none". */
  private static void atOutsideTheOutput() {
    NotationParse x = Check.sums();
    int[] far = {-1, -5, 5, 6, 229, 230, 231, 256, 260, 65536, MIN, MIN + 1, MAX};
    check.due("at(0) before a print", x.at(0), -1);
    Check.read(x, "(a)+b");
    check.due("at(0) before a print of the tree", x.at(0), -1);
    x.print();
    check.due("the first byte", x.at(0), (int) 'a');
    check.due("the last byte", x.at(4), (int) 'b');
    for (int i : far) {
      check.due("at(" + i + ")", x.at(i), -1);
    }
  }

  /** Promise 12: "Whether a word, told as for word(), is a KEY": what is no word is none. */
  private static void isKeyOfNoWord() {
    NotationParse x = Check.sums();
    Check.notation(x, 9, "aaaaaaaa");
    for (int n : WRONG_LENGTHS) {
      check.due("isKey of " + n + " bytes", x.isKey(Check.code("aaaaaaaa"), n), false);
      check.due("isKey of + and " + n + " bytes", x.isKey('+', n), false);
    }
    for (int n = 1; n <= 8; n++) {
      check.due("isKey of " + n + " letters", x.isKey(Check.code("aaaaaaaa"), n), n == 8);
    }
    for (String none : new String[] {"(", ")", " ", " +", "+ ", "\u0000+", "+\u0000", "if ", "_", "\u00ab"}) {
      check.due("isKey of " + none, Check.isKey(x, none), false);
    }
    for (long bytes : new long[] {0L, -1L, Long.MIN_VALUE, Long.MAX_VALUE}) {
      for (int n = 1; n <= 8; n++) {
        check.due("isKey(" + bytes + ", " + n + ")", x.isKey(bytes, n), false);
      }
    }
  }

  /** "Words of notations are KEYS": those of the first and the last part, and of no part in hand. */
  private static void isKeyOfPartsInHand() {
    NotationParse x = new NotationParse();
    Check.parts(x, "a b c d e f");
    check.due("the first in hand", Check.isKey(x, "a"), false);
    check.due("the last in hand", Check.isKey(x, "f"), false);
    check.due("a refused notation", () -> x.notation(10), ARGUMENT);
    check.due("makes no key", Check.isKey(x, "a"), false);
    Check.notation(x, 0, "a b c d e f");
    check.due("the first of six", Check.isKey(x, "a"), true);
    check.due("the last of six", Check.isKey(x, "f"), true);
    for (int i = 1; i < 11; i++) {
      Check.notation(x, 0, "g");
    }
    Check.notation(x, 0, "_0 g _0 g _0 last");
    check.due("the last of twelve", Check.isKey(x, "last"), true);
    Check.parts(x, "more");
    check.due("a 13th", () -> x.notation(0), STATE);
    check.due("makes no key", Check.isKey(x, "more"), false);
  }

  /** Promise 13: "NONE for another what". */
  private static void aboutAnotherWhat() {
    NotationParse x = Check.sums();
    Check.read(x, "a+b");
    Check.printed(x);
    for (int what : new int[] {-1, 5, 6, 256, 65536, 65540, MIN, MIN + 4, MAX}) {
      check.due("about(" + what + ")", x.about(what), -1);
    }
  }

  /** Promise 13 with all that there can be: 12 notations, 6 parts, 200 bytes, 30 nodes, 229 bytes. */
  private static void allIsFull() {
    NotationParse x = wide();
    for (int i = 3; i < 11; i++) {
      Check.notation(x, 0, "k");
    }
    Check.notation(x, 9, "! _9");
    Check.read(x, WIDE_TEXT);
    x.print();
    Check.read(x, "! ".repeat(29) + "a" + " ".repeat(141));
    Check.parts(x, "_0 k _0 k _0 k");
    int[] full = {12, 6, 200, 30, 229};
    for (int what = 0; what < full.length; what++) {
      check.due("about(" + what + ") when all is full", x.about(what), full[what]);
    }
    check.refused(x, "a byte more", () -> x.put('a', 1), false);
    check.refused(x, "a hole more", () -> x.hole(0), STATE);
    check.refused(x, "a word more", () -> Check.word(x, "k"), STATE);
    check.refused(x, "a notation more", () -> x.notation(0), STATE);
    check.refused(x, "a node more", () -> x.node(30, 0), NO_ELEMENT);
    check.due("the last node", Check.node(x, 29), "-1/0/58/1/28");
  }

  /** "The parts in hand are a notation" by notation() alone: beside 12 they are in no text's way. */
  private static void partsInHandAreNotRead() {
    for (String parts : new String[] {"_0 k _0 k _0 k", "_10 z", "z _0", "_0"}) {
      NotationParse x = twelve();
      Check.parts(x, parts);
      check.due("30 words", Check.read(x, "(".repeat(14) + "a" + ")".repeat(14) + "/"), 1);
      check.due("a level too low", Check.read(x, "a/////b/"), "fault 1 at 7");
      check.due("a word of the parts", Check.read(x, "z"), 1);
      check.due("no term of them", Check.read(x, "z a"), "fault 1 at 2");
      check.due("no hole of them", Check.read(x, "a z"), "fault 1 at 2");
      check.due("still in hand", x.about(1), parts.split(" ").length);
    }
    NotationParse y = new NotationParse();
    for (int i = 0; i < 12; i++) {
      Check.notation(y, i % 2 == 0 ? 0 : 9, i % 2 == 0 ? "f _9" : "/" + "/".repeat(i / 2) + " _9");
    }
    y.hole(0);
    check.due("a longer text", Check.read(y, "/ / / / / a"), 1);
    check.due("a level too low for the hole at hand's side", Check.read(y, "/ f a"), "fault 1 at 2");
    check.due("the same in brackets", Check.read(y, "(/ / f a)"), "fault 1 at 5");
  }
}
