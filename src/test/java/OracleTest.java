import java.util.Random;

/** Random notations and texts: NotationParse against a slow reader written from the document. */
final class OracleTest {
  private static final Check check = new Check("OracleTest");

  public static void main(String[] args) {
    Random random = new Random(20261115);
    for (int round = 0; round < 1500; round++) {
      SlowReader reader = new SlowReader();
      NotationParse x = new NotationParse();
      int notations = round % 8 == 0 ? 12 : random.nextInt(7);
      String[] vocabulary = RandomTexts.vocabulary(random);
      for (int i = 0; i < notations; i++) {
        SlowReader.Notation notation = RandomTexts.notation(random, vocabulary);
        Check.notation(x, notation.level(), String.join(" ", notation.parts()));
        reader.notations.add(notation);
      }
      for (int t = 0; t < 12; t++) {
        compare(x, reader, RandomTexts.text(random, reader, vocabulary));
      }
    }
    check.end();
  }

  private static void compare(NotationParse x, SlowReader reader, String text) {
    String about = reader.notations + " reading " + text.replace("\n", "\\n");
    reader.take(text);
    check.due("fault or trees of " + about, Check.read(x, text), reader.answer());
    SlowReader.Node tree = reader.answer().equals("1") ? reader.trees(0, 0, reader.words.size()).get(0) : null;
    check.due("nodes of " + about, Check.nodes(x), tree == null ? "" : reader.rows(tree));
    String printed = tree == null ? "throws.NoSuchElementException" : reader.printed(tree);
    check.due("print of " + about, Check.printed(x), printed);
  }
}
