import java.util.NoSuchElementException;

/** What the tests share: telling notations and texts, and comparing answers. */
final class Check {
  /** A call whose answer, or the name of what it throws, is looked at. */
  interface Call {
    Object answer();
  }

  private final String name;
  private int calls = 0;
  private int wrong = 0;

  Check(String name) {
    this.name = name;
  }

  void due(String what, Object got, Object want) {
    calls++;
    if (!String.valueOf(got).equals(String.valueOf(want))) {
      wrong++;
      System.out.println(name + ": " + what + " answered " + got + ", due is " + want);
    }
  }

  void due(String what, Call call, Object want) {
    due(what, outcome(call), want);
  }

  void end() {
    System.out.println(name + ": " + calls + " answers, " + wrong + " of them wrong");
    if (wrong != 0) {
      System.exit(1);
    }
  }

  static String outcome(Call call) {
    try {
      return String.valueOf(call.answer());
    } catch (IllegalArgumentException | IllegalStateException | NoSuchElementException e) {
      return "throws." + e.getClass().getSimpleName();
    }
  }

  /** The bytes of a text of at most 8, as word() and put() take them. */
  static long code(String text) {
    long code = 0;
    for (int i = 0; i < text.length(); i++) {
      code = code << 8 | text.charAt(i);
    }
    return code;
  }

  static int word(NotationParse x, String word) {
    return x.word(code(word), word.length());
  }

  static boolean isKey(NotationParse x, String word) {
    return x.isKey(code(word), word.length());
  }

  /** Takes parts as "_6 + _7" into hand: holes with their levels, and words. */
  static void parts(NotationParse x, String parts) {
    for (String part : parts.trim().split(" +")) {
      if (part.startsWith("_")) {
        x.hole(Integer.parseInt(part.substring(1)));
      } else {
        word(x, part);
      }
    }
  }

  static int notation(NotationParse x, int level, String parts) {
    parts(x, parts);
    return x.notation(level);
  }

  /** Makes it the text: whether all of it came. */
  static boolean text(NotationParse x, String text) {
    x.clear();
    boolean all = true;
    for (int i = 0; i < text.length(); i += 8) {
      String some = text.substring(i, Math.min(text.length(), i + 8));
      all &= x.put(code(some), some.length());
    }
    return all;
  }

  /** Reads a text: the trees, or the fault and its place. */
  static String read(NotationParse x, String text) {
    text(x, text);
    String got = outcome(() -> x.read());
    if (got.equals("throws.IllegalArgumentException")) {
      return "fault " + x.fault(0) + " at " + x.fault(1);
    }
    return x.fault(0) == 0 && x.fault(1) == NotationParse.NONE ? got : got + " and a fault";
  }

  static String output(NotationParse x) {
    StringBuilder bytes = new StringBuilder();
    for (int i = 0; i < x.about(4); i++) {
      bytes.append((char) x.at(i));
    }
    return bytes.toString();
  }

  static String printed(NotationParse x) {
    String size = outcome(() -> x.print());
    if (size.startsWith("throws.")) {
      return size;
    }
    String bytes = output(x);
    return size.equals(String.valueOf(bytes.length())) ? bytes : size + " bytes: " + bytes;
  }

  /** Everything that node() tells of a node, as "notation/nodes/place/words/holder". */
  static String node(NotationParse x, int i) {
    StringBuilder row = new StringBuilder();
    for (int what = 0; what < 5; what++) {
      row.append(what == 0 ? "" : "/").append(x.node(i, what));
    }
    return row.toString();
  }

  static String nodes(NotationParse x) {
    StringBuilder all = new StringBuilder();
    for (int i = 0; i < x.about(3); i++) {
      all.append(i == 0 ? "" : " ").append(node(x, i));
    }
    return all.toString();
  }

  /** All that can be asked of an object without changing it, but for its keys. */
  static String state(NotationParse x) {
    StringBuilder state = new StringBuilder();
    for (int what = 0; what < 5; what++) {
      state.append(x.about(what)).append(' ');
    }
    return state + "fault " + x.fault(0) + " at " + x.fault(1) + "; " + nodes(x) + "; " + output(x);
  }

  /** A call that throws, or answers false, and changes nothing. */
  void refused(NotationParse x, String what, Call call, Object want) {
    String before = state(x);
    due(what, call, want);
    due("the state behind " + what, state(x), before);
  }

  /** A new object with sums, products, a sign ahead, and two forms of if. */
  static NotationParse sums() {
    NotationParse x = new NotationParse();
    notation(x, 6, "_6 + _7");
    notation(x, 7, "_7 * _8");
    notation(x, 9, "! _9");
    notation(x, 0, "if _0 then _0");
    notation(x, 0, "if _0 then _0 else _0");
    return x;
  }
}
