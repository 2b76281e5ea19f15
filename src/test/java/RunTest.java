import java.util.Random;

/** Random runs of 512 calls: NotationParse against the document's promises in their plainest form. */
final class RunTest {
  private static final int RUNS = 250;
  private static final int CALLS = 512;
  private static final String[] OTHERS = {"(", ")", "a1", "_", "", " ", "\u00ff", "((", "a b", "12345678"};
  private static final String[] PIECES = {"a", " ", "\n", "(", ")", "(a)", "12345678", "        ", "_"};
  private static final Check check = new Check("RunTest");

  private final Random random;
  private final String[] words;
  private final NotationParse x = new NotationParse();
  private final PlainModel model = new PlainModel();
  private final StringBuilder run = new StringBuilder();
  private int calls = 0;

  private RunTest(long seed) {
    random = new Random(seed);
    words = RandomTexts.vocabulary(random);
  }

  public static void main(String[] args) {
    for (int run = 0; run < RUNS; run++) {
      new RunTest(run).go();
    }
    check.end();
  }

  private void go() {
    int notations = 1 + random.nextInt(12);
    for (int i = 0; i < notations; i++) {
      if (random.nextInt(3) == 0) {
        tellAnything();
      }
      tellNotation();
    }
    while (calls < CALLS) {
      switch (random.nextInt(12)) {
        case 0 -> tellAnything();
        case 1, 2 -> putAnything();
        case 3, 4 -> writeText();
        case 5 -> same("read()", () -> x.read(), () -> model.read());
        case 6 -> same("print()", () -> x.print(), () -> model.print());
        default -> ask();
      }
    }
  }

  private void tellNotation() {
    SlowReader.Notation notation = RandomTexts.notation(random, words);
    for (String part : notation.parts()) {
      if (part.startsWith("_")) {
        hole(Integer.parseInt(part.substring(1)));
      } else {
        word(Check.code(part), part.length());
      }
    }
    notation(notation.level());
  }

  private void tellAnything() {
    int kind = random.nextInt(8);
    if (kind < 3) {
      hole(number(11));
    } else if (kind < 6) {
      boolean usual = random.nextInt(3) != 0;
      String word = usual ? words[random.nextInt(words.length)] : OTHERS[random.nextInt(OTHERS.length)];
      word(noise(word), random.nextInt(20) == 0 ? number(9) : word.length());
    } else {
      notation(number(10));
    }
  }

  private void hole(int level) {
    same("hole(" + level + ")", () -> x.hole(level), () -> model.hole(level));
  }

  private void word(long bytes, int n) {
    same("word(" + bytes + ", " + n + ")", () -> x.word(bytes, n), () -> model.word(bytes, n));
  }

  private void notation(int level) {
    same("notation(" + level + ")", () -> x.notation(level), () -> model.notation(level));
  }

  private void putAnything() {
    boolean usual = random.nextInt(3) != 0;
    String piece = usual ? words[random.nextInt(words.length)] : PIECES[random.nextInt(PIECES.length)];
    put(noise(piece), random.nextInt(30) == 0 ? number(9) : piece.length());
  }

  private void writeText() {
    if (random.nextInt(5) != 0) {
      same("clear()", () -> clear(x), () -> clear(model));
    }
    String text = RandomTexts.text(random, model.reader, words);
    int n = 1;
    for (int i = 0; i < text.length(); i += n) {
      n = Math.min(text.length() - i, random.nextInt(3) == 0 ? 1 + random.nextInt(8) : 8);
      put(noise(text.substring(i, i + n)), n);
    }
    if (random.nextInt(8) != 0) {
      same("read()", () -> x.read(), () -> model.read());
    }
  }

  private static boolean clear(NotationParse x) {
    x.clear();
    return true;
  }

  private static boolean clear(PlainModel model) {
    model.clear();
    return true;
  }

  private void put(long bytes, int n) {
    same("put(" + bytes + ", " + n + ")", () -> x.put(bytes, n), () -> model.put(bytes, n));
  }

  private void ask() {
    int i = number(1 + random.nextInt(40));
    int what = number(6);
    long bytes = noise(words[random.nextInt(words.length)]);
    int n = number(5);
    switch (random.nextInt(5)) {
      case 0 -> same("fault(" + what + ")", () -> x.fault(what), () -> model.fault(what));
      case 1 -> same("node(" + i + ", " + what + ")", () -> x.node(i, what), () -> model.node(i, what));
      case 2 -> same("at(" + i + ")", () -> x.at(i), () -> model.at(i));
      case 3 -> same("isKey(" + bytes + ", " + n + ")", () -> x.isKey(bytes, n), () -> model.isKey(bytes, n));
      default -> same("about(" + what + ")", () -> x.about(what), () -> model.about(what));
    }
  }

  private void same(String call, Check.Call got, Check.Call want) {
    if (calls == CALLS) {
      return;
    }
    calls++;
    run.append(' ').append(call);
    String due = Check.outcome(want);
    String answer = Check.outcome(got);
    check.due(answer.equals(due) ? call : "the last of" + run, answer, due);
  }

  /** Mostly from 0 below the bound, now and then one outside, or anything. */
  private int number(int bound) {
    int kind = random.nextInt(40);
    return kind == 0 ? random.nextInt() : kind == 1 ? bound : kind == 2 ? -1 : random.nextInt(bound);
  }

  /** The bytes of a piece, now and then with others above them. */
  private long noise(String piece) {
    long above = piece.length() < 8 && random.nextInt(4) == 0 ? random.nextLong() << 8 * piece.length() : 0;
    return Check.code(piece) | above;
  }
}
