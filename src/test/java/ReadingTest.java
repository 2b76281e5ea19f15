/** Promises 7 to 11: reading, faults, the tree, and what is printed. */
final class ReadingTest {
  private static final String ARGUMENT = "throws.IllegalArgumentException";
  private static final String NO_ELEMENT = "throws.NoSuchElementException";
  private static final Check check = new Check("ReadingTest");

  public static void main(String[] args) {
    treesAreCounted();
    treesAreCountedToAMillion();
    wordsAreCut();
    faultsOfNotations();
    faultsOfWords();
    faultsSideBySide();
    faultIsOfTheLatestRead();
    nodes();
    noNodes();
    deepTrees();
    printing();
    printingLevels();
    longestOutput();
    at();
    check.end();
  }

  private static void treesAreCounted() {
    NotationParse x = Check.sums();
    check.due("an atom", Check.read(x, "a"), 1);
    check.due("a product in a sum", Check.read(x, "a + b * c"), 1);
    check.due("sums to the left", Check.read(x, "a + b + c"), 1);
    check.due("the dangling else", Check.read(x, "if a then if b then c else d"), 2);
    check.due("no dangling else", Check.read(x, "if a then (if b then c) else d"), 1);
    check.due("the same text once more", () -> x.read(), 1);
    NotationParse y = new NotationParse();
    Check.notation(y, 0, "_0 + _0");
    int[] catalan = {1, 1, 2, 5, 14, 42, 132, 429, 1430, 4862, 16796, 58786, 208012, 742900};
    for (int n = 0; n < catalan.length; n++) {
      check.due(n + " signs", Check.read(y, "a" + "+a".repeat(n)), catalan[n]);
    }
    check.due("14 signs", Check.read(y, "a" + "+a".repeat(14)), 1000000);
    check.due("no tree of them", y.about(3), 0);
    NotationParse z = new NotationParse();
    Check.notation(z, 0, "_10 x _10");
    Check.notation(z, 0, "_10 x _10 y");
    Check.notation(z, 3, "y");
    check.due("a hole of level 10", Check.read(z, "a x (y) y"), 1);
    check.due("its notation", z.node(0, 0), 1);
    check.due("a notation in a hole of level 10", Check.read(z, "a x y"), "fault 1 at 4");
  }

  private static void treesAreCountedToAMillion() {
    NotationParse x = new NotationParse();
    Check.notation(x, 0, "_10 - _10");
    Check.notation(x, 0, "_9 ; _9 ; _9");
    for (int i = 0; i < 9; i++) {
      Check.notation(x, 9, "nil");
    }
    check.due("9 * 9 * 9 trees", Check.read(x, "nil;nil;nil"), 729);
    check.due("9 to the sixth", Check.read(x, "(nil;nil;nil)-(nil;nil;nil)"), 531441);
    Check.notation(x, 9, "nil");
    check.due("10 to the fifth", Check.read(x, "(nil;nil;nil)-(nil;nil;a)"), 100000);
    check.due("just a million", Check.read(x, "(nil;nil;nil)-(nil;nil;nil)"), 1000000);
    NotationParse y = new NotationParse();
    for (int i = 0; i < 12; i++) {
      Check.notation(y, 0, "_0 + _0");
    }
    check.due("many millions", Check.read(y, "a" + "+a".repeat(14)), 1000000);
    check.due("twelve", Check.read(y, "a+a"), 12);
    check.due("two times twelve times twelve", Check.read(y, "a+a+a"), 288);
  }

  private static void wordsAreCut() {
    NotationParse x = Check.sums();
    check.due("words are as long as can be", Check.read(x, "ifa+b"), 1);
    check.due("spaces and line ends", Check.read(x, " \n a \n\n+\n b  \n"), 1);
    check.due("their places", Check.nodes(x), "0/2/3/3/-1 -1/0/3/1/0 -1/0/10/1/0");
    check.due("letters and digits are two words", Check.read(x, "a1"), "fault 1 at 1");
    check.due("signs are one word", Check.read(x, "a+!b"), "fault 1 at 1");
    check.due("signs apart are two", Check.read(x, "a+ !b"), 1);
    check.due("brackets are lone", Check.read(x, "((a))+!(b)"), "fault 1 at 5");
    check.due("brackets end rows of signs", Check.read(x, "(a)+(!(b))"), 1);
    check.due("words of 8", Check.read(x, "abcdefgh+12345678"), 1);
    Check.notation(x, 9, "[ _0 ]");
    check.due("lone signs are apart", Check.read(x, "[[a]]"), 1);
  }

  private static void faultsOfNotations() {
    NotationParse x = Check.sums();
    check.due("the empty text", Check.read(x, ""), "fault 1 at 0");
    check.due("spaces alone", Check.read(x, " \n "), "fault 1 at 3");
    check.due("a sign that stands first", Check.read(x, "+ a"), "fault 1 at 0");
    check.due("spaces ahead of it", Check.read(x, "  + a"), "fault 1 at 2");
    check.due("the end comes too early", Check.read(x, "a +"), "fault 1 at 3");
    check.due("spaces behind it", Check.read(x, "a +   "), "fault 1 at 6");
    check.due("two atoms", Check.read(x, "a b"), "fault 1 at 2");
    check.due("a bracket too many", Check.read(x, "(a))"), "fault 1 at 3");
    check.due("a bracket too few", Check.read(x, "((a)"), "fault 1 at 4");
    check.due("empty brackets", Check.read(x, "()"), "fault 1 at 1");
    check.due("a word that is nowhere", Check.read(x, "a - b"), "fault 1 at 2");
    check.due("a key as an atom", Check.read(x, "a + then"), "fault 1 at 4");
    check.due("a level too low", Check.read(x, "a * if b then c"), "fault 1 at 4");
    check.due("a sum in a product's hole", Check.read(x, "!a + b"), 1);
    check.due("then without if", Check.read(x, "a then b"), "fault 1 at 2");
    check.due("if without then", Check.read(x, "if a"), "fault 1 at 4");
    check.due("else after else", Check.read(x, "if a then b else c else d"), "fault 1 at 19");
    check.due("only the first counts", Check.read(x, "a b c + + ( ("), "fault 1 at 2");
    check.due("what can go on for more words than a text has",
        Check.read(x, "(".repeat(30)), "fault 1 at 30");
    NotationParse y = new NotationParse();
    Check.notation(y, 2, "_5 ? _0");
    Check.notation(y, 5, "_1 @ _0");
    Check.notation(y, 1, "_9 % _10");
    check.due("lower levels are wanted by holes in front", Check.read(y, "a % b @ c ? d"), 2);
    check.due("and only in front", Check.read(y, "a ? b % c @ d % e"), 2);
    check.due("not past them", Check.read(y, "a % b ? c"), "fault 1 at 6");
  }

  private static void faultsOfWords() {
    NotationParse x = Check.sums();
    for (char c : "\"'\\_`\t\r\u0000\u007f\u0080\u00a0\u00ff".toCharArray()) {
      check.due("byte " + (int) c, Check.read(x, "a " + c), "fault 2 at 2");
      check.due("byte " + (int) c + " first", Check.read(x, c + "a"), "fault 2 at 0");
    }
    check.due("nine letters", Check.read(x, "abcdefghi"), "fault 2 at 0");
    check.due("nine digits", Check.read(x, "a + 123456789"), "fault 2 at 4");
    check.due("nine signs", Check.read(x, "a+++++++++ b"), "fault 2 at 1");
    check.due("nine lone signs are nine words", Check.read(x, "(((((((((a)))))))))"), 1);
    check.due("a word ended by no word", Check.read(x, "abc_def"), "fault 2 at 3");
    check.due("30 words", Check.read(x, "! ".repeat(29) + "a"), 1);
    check.due("30 nodes", x.about(3), 30);
    check.due("31 words", Check.read(x, "! ".repeat(30) + "a"), "fault 2 at 60");
    check.due("nothing is read then", x.about(3), 0);
    check.due("31 words and more", Check.read(x, "a" + "+a".repeat(40)), "fault 2 at 30");
    check.due("a 31st word that is too long", Check.read(x, "! ".repeat(30) + "abcdefghi"), "fault 2 at 60");
    check.due("spaces behind the 30th", Check.read(x, "! ".repeat(29) + "a  \n"), 1);
  }

  private static void faultsSideBySide() {
    NotationParse x = Check.sums();
    check.due("1 ahead of 2", Check.read(x, "a b _"), "fault 1 at 2");
    check.due("2 ahead of 1", Check.read(x, "a _ b"), "fault 2 at 2");
    check.due("2 at the end's side", Check.read(x, "a +_"), "fault 2 at 3");
    check.due("both at one place: a word too long", Check.read(x, "a abcdefghi"), "fault 2 at 2");
    check.due("both at one place: the 31st word", Check.read(x, "! ".repeat(29) + "a b"), "fault 2 at 60");
    check.due("1 ahead of the 31st word", Check.read(x, "! ".repeat(28) + "a b c"), "fault 1 at 58");
    check.due("2 in a text with a tree ahead", Check.read(x, "a\t"), "fault 2 at 1");
  }

  private static void faultIsOfTheLatestRead() {
    NotationParse x = Check.sums();
    Check.read(x, "a b");
    for (int what : new int[] {-1, 2, Integer.MIN_VALUE, Integer.MAX_VALUE}) {
      check.due("fault(" + what + ")", x.fault(what), -1);
    }
    check.due("the fault", x.fault(0), 1);
    x.clear();
    x.put('a', 1);
    check.due("still, before the next read", x.fault(1), 2);
    check.due("the next read", () -> x.read(), 1);
    check.due("has none", x.fault(0), 0);
    check.due("nor a place", x.fault(1), -1);
    check.due("many trees are no fault", Check.read(x, "if a then if b then c else d"), 2);
  }

  private static void nodes() {
    NotationParse x = Check.sums();
    Check.read(x, "(a+b)*c");
    check.due("a product", Check.nodes(x),
        "1/2/0/7/-1 -2/1/0/5/0 0/2/1/3/1 -1/0/1/1/2 -1/0/3/1/2 -1/0/6/1/0");
    Check.read(x, "if a then ! b * 12 else (if c then d)");
    check.due("an if", Check.nodes(x),
        "4/3/0/14/-1 -1/0/3/1/0 1/2/10/4/0 2/1/10/2/2 -1/0/12/1/3 -1/0/16/1/2 "
            + "-2/1/24/6/0 3/2/25/4/6 -1/0/28/1/7 -1/0/35/1/7");
    check.due("ten nodes", x.about(3), 10);
    for (int what : new int[] {-1, 5, Integer.MIN_VALUE, Integer.MAX_VALUE}) {
      check.due("node(0, " + what + ")", x.node(0, what), -3);
    }
    Check.read(x, " ( ( 7 ) ) ");
    check.due("brackets in brackets", Check.nodes(x), "-2/1/1/5/-1 -2/1/3/3/0 -1/0/5/1/1");
    NotationParse y = new NotationParse();
    Check.notation(y, 3, "_0 ? _1 : _2 ;");
    Check.notation(y, 0, "x");
    Check.read(y, "x ? a ? b : c ; : d ;");
    check.due("three holes", Check.nodes(y), "0/3/0/11/-1 1/0/0/1/0 "
        + "0/3/4/6/0 -1/0/4/1/2 -1/0/8/1/2 -1/0/12/1/2 -1/0/18/1/0");
  }

  private static void noNodes() {
    NotationParse x = Check.sums();
    Check.read(x, "a + b");
    for (int i : new int[] {-1, 3, 30, Integer.MIN_VALUE, Integer.MAX_VALUE}) {
      check.due("node(" + i + ", 0)", () -> x.node(i, 0), NO_ELEMENT);
      check.due("node(" + i + ", 9)", () -> x.node(i, 9), NO_ELEMENT);
    }
    check.due("the third node", () -> x.node(2, 0), -1);
    Check.read(x, "if a then if b then c else d");
    check.due("no node of two trees", () -> x.node(0, 0), NO_ELEMENT);
    check.due("no nodes of two trees", x.about(3), 0);
    check.due("nothing to print of two trees", () -> x.print(), NO_ELEMENT);
    Check.read(x, "a + b");
    Check.text(x, "a +");
    check.due("a text not yet read leaves the tree", x.about(3), 3);
    check.due("a text with a fault", () -> x.read(), ARGUMENT);
    check.due("takes the tree", () -> x.node(0, 0), NO_ELEMENT);
    check.due("has nothing to print", () -> x.print(), NO_ELEMENT);
  }

  private static void deepTrees() {
    NotationParse x = Check.sums();
    check.due("brackets", Check.read(x, "(".repeat(14) + "a" + ")".repeat(14)), 1);
    check.due("their nodes", x.about(3), 15);
    check.due("the atom", Check.node(x, 14), "-1/0/14/1/13");
    check.due("printed", Check.printed(x), "a");
    check.due("to the left", Check.read(x, "a" + "+a".repeat(14)), 1);
    check.due("the leftmost", Check.node(x, 14), "-1/0/0/1/13");
    check.due("the rightmost", Check.node(x, 28), "-1/0/28/1/0");
    NotationParse y = new NotationParse();
    Check.notation(y, 5, "_6 ^ _5");
    check.due("to the right", Check.read(y, "a" + "^a".repeat(14)), 1);
    check.due("the rightmost", Check.node(y, 28), "-1/0/28/1/26");
    NotationParse z = new NotationParse();
    Check.notation(z, 0, "_0 !");
    check.due("behind", Check.read(z, "a" + " !".repeat(29)), 1);
    check.due("30 nodes", x.about(3) + 1, z.about(3));
    check.due("the innermost", Check.node(z, 29), "-1/0/0/1/28");
  }

  private static void printing() {
    NotationParse x = Check.sums();
    String[][] pairs = {{"a", "a"}, {"((a))", "a"}, {"(a+b)*c", "( a + b ) * c"},
        {"a+(b*c)", "a + b * c"}, {"a+(b+c)", "a + ( b + c )"}, {"(a+b)+c", "a + b + c"},
        {"((a+b))*((c))", "( a + b ) * c"}, {"! (a)", "! a"}, {"! (! a)", "! ! a"},
        {"! (a*b)", "! ( a * b )"}, {"(if a then b)", "if a then b"},
        {"(if (a) then (b+c))+d", "( if a then b + c ) + d"},
        {"if a then (if b then c) else d", "if a then if b then c else d"},
        {"(((a+b)*c)+d)", "( a + b ) * c + d"}, {"a*((b+c)*d)", "a * ( ( b + c ) * d )"},
        {"abcdefgh\n+\n12345678", "abcdefgh + 12345678"}};
    for (String[] pair : pairs) {
      check.due("trees of " + pair[0], Check.read(x, pair[0]), 1);
      check.due("the printed " + pair[0], Check.printed(x), pair[1]);
      check.due("bytes of the output", x.about(4), pair[1].length());
      check.due("it once more", Check.printed(x), pair[1]);
    }
    Check.read(x, "a b");
    check.due("printing without a tree", () -> x.print(), NO_ELEMENT);
    check.due("leaves the output", Check.output(x), "abcdefgh + 12345678");
  }

  private static void printingLevels() {
    for (int own = 0; own <= 9; own++) {
      for (int hole = 0; hole <= 10; hole++) {
        NotationParse x = new NotationParse();
        Check.notation(x, own, "f _0");
        Check.notation(x, 0, "g _" + hole);
        Check.read(x, "g ((f a))");
        check.due("level " + own + " in " + hole, Check.printed(x), own < hole ? "g ( f a )" : "g f a");
        Check.read(x, "g (a)");
        check.due("an atom in " + hole, Check.printed(x), "g a");
      }
    }
  }

  private static void longestOutput() {
    NotationParse x = Check.sums();
    String text = "abcdefgh" + "+abcdefgh".repeat(14);
    check.due("29 words", Check.read(x, text), 1);
    check.due("printed", Check.printed(x), text.replace("+", " + "));
    NotationParse y = new NotationParse();
    Check.notation(y, 0, "++++++++ _0");
    StringBuilder row = new StringBuilder();
    for (int i = 0; i < 12; i++) {
      row.append("++++++++(");
    }
    row.append("++++++++abcdefgh");
    check.due("words side by side", Check.text(y, row + ")".repeat(4)), true);
    check.due("brackets that do not close", () -> y.read(), ARGUMENT);
    NotationParse z = new NotationParse();
    Check.notation(z, 0, "++++++++ _10");
    Check.notation(z, 0, "aaaaaaaa _0");
    String wide = "++++++++(aaaaaaaa".repeat(7) + " b" + ")".repeat(7);
    check.due("wide words", Check.read(z, wide), 1);
    String spaced = "++++++++ ( aaaaaaaa ".repeat(7) + "b" + " )".repeat(7);
    check.due("wide words printed", Check.printed(z), spaced);
  }

  private static void at() {
    NotationParse x = Check.sums();
    Check.read(x, "(a)+b");
    check.due("no output before print", x.at(0), -1);
    x.print();
    int[] bytes = {-1, 'a', ' ', '+', ' ', 'b', -1, -1};
    for (int i = 0; i < bytes.length; i++) {
      check.due("at(" + (i - 1) + ")", x.at(i - 1), bytes[i]);
    }
    check.due("at(MIN)", x.at(Integer.MIN_VALUE), -1);
    check.due("at(MAX)", x.at(Integer.MAX_VALUE), -1);
    Check.read(x, "z");
    check.due("a new tree is not yet the output", x.about(4), 5);
    x.print();
    check.due("a shorter output", Check.output(x), "z");
    check.due("behind it", x.at(1), -1);
  }
}
