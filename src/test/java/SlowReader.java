import java.math.BigInteger;
import java.util.ArrayList;
import java.util.HashMap;
import java.util.HashSet;
import java.util.List;
import java.util.Map;
import java.util.Set;
import java.util.regex.Matcher;
import java.util.regex.Pattern;

/** Counts, trees and prefixes straight from the document's terms, with no thought of speed. */
final class SlowReader {
  record Notation(int level, List<String> parts) {}

  /** A node as the document tells it: its kind, what fills its holes, and where it stands. */
  record Node(int kind, List<Node> nodes, int first, int words) {}

  private static final Pattern WORD =
      Pattern.compile("[A-Za-z]+|[0-9]+|[!#$%&*+\\-./:<=>?@^|~]+|[()\\[\\]{},;]");
  private static final BigInteger MILLION = BigInteger.valueOf(1000000);
  final List<Notation> notations = new ArrayList<>();
  List<String> words = new ArrayList<>();
  private final List<Integer> places = new ArrayList<>();
  private final Map<Integer, BigInteger> counts = new HashMap<>();
  private String answer = "";

  static boolean isSpelled(String bytes) {
    return WORD.matcher(bytes).matches();
  }

  String answer() {
    return answer;
  }

  void take(String text) {
    words = new ArrayList<>();
    places.clear();
    counts.clear();
    int wrong = cut(text);
    for (int n = 1; n <= words.size(); n++) {
      if (!begins(n)) {
        answer = "fault 1 at " + places.get(n - 1);
        return;
      }
    }
    BigInteger trees = count(0, 0, words.size());
    if (wrong >= 0) {
      answer = "fault 2 at " + wrong;
    } else if (trees.signum() == 0) {
      answer = "fault 1 at " + text.length();
    } else {
      answer = trees.min(MILLION).toString();
    }
  }

  private int cut(String text) {
    Matcher matcher = WORD.matcher(text);
    int place = 0;
    while (place < text.length()) {
      if (text.charAt(place) == ' ' || text.charAt(place) == '\n') {
        place++;
        continue;
      }
      matcher.region(place, text.length());
      if (!matcher.lookingAt() || matcher.group().length() > 8 || words.size() == 30) {
        return place;
      }
      words.add(matcher.group());
      places.add(place);
      place = matcher.end();
    }
    return -1;
  }

  private Set<String> keys() {
    Set<String> keys = new HashSet<>();
    for (Notation notation : notations) {
      keys.addAll(notation.parts);
    }
    return keys;
  }

  private boolean isAtom(int i) {
    return Character.isLetterOrDigit(words.get(i).charAt(0)) && !keys().contains(words.get(i));
  }

  private boolean isWord(int i, int end, String word) {
    return i < end && words.get(i).equals(word);
  }

  private static int levelOf(String hole) {
    return Integer.parseInt(hole.substring(1));
  }

  BigInteger count(int level, int i, int j) {
    int key = (level * 40 + i) * 40 + j;
    BigInteger known = counts.get(key);
    if (known != null) {
      return known;
    }
    BigInteger sum = j - i == 1 && isAtom(i) ? BigInteger.ONE : BigInteger.ZERO;
    if (j - i > 2 && isWord(i, j, "(") && isWord(j - 1, j, ")")) {
      sum = sum.add(count(0, i + 1, j - 1));
    }
    for (Notation notation : notations) {
      if (notation.level >= level) {
        sum = sum.add(countParts(notation.parts, 0, i, j));
      }
    }
    counts.put(key, sum);
    return sum;
  }

  private BigInteger countParts(List<String> parts, int k, int i, int j) {
    if (k == parts.size()) {
      return i == j ? BigInteger.ONE : BigInteger.ZERO;
    }
    String part = parts.get(k);
    if (!part.startsWith("_")) {
      return isWord(i, j, part) ? countParts(parts, k + 1, i + 1, j) : BigInteger.ZERO;
    }
    BigInteger sum = BigInteger.ZERO;
    for (int m = i + 1; m <= j; m++) {
      BigInteger rest = countParts(parts, k + 1, m, j);
      if (rest.signum() != 0) {
        sum = sum.add(rest.multiply(count(levelOf(part), i, m)));
      }
    }
    return sum;
  }

  /** Whether some text that has a tree begins with the first n words. */
  private boolean begins(int n) {
    boolean[][] opens = new boolean[11][n + 1];
    boolean more = true;
    while (more) {
      more = false;
      for (int i = n; i >= 0; i--) {
        for (int level = 0; level <= 10; level++) {
          if (!opens[level][i] && opensTerm(opens, level, i, n)) {
            opens[level][i] = true;
            more = true;
          }
        }
      }
    }
    return opens[0][0];
  }

  private boolean opensTerm(boolean[][] opens, int level, int i, int n) {
    if (i == n || i == n - 1 && isAtom(i) || opensParts(opens, List.of("(", "_0", ")"), 0, i, n)) {
      return true;
    }
    for (Notation notation : notations) {
      if (notation.level >= level && opensParts(opens, notation.parts, 0, i, n)) {
        return true;
      }
    }
    return false;
  }

  private boolean opensParts(boolean[][] opens, List<String> parts, int k, int i, int n) {
    if (i == n) {
      return true;
    }
    if (k == parts.size()) {
      return false;
    }
    String part = parts.get(k);
    if (!part.startsWith("_")) {
      return isWord(i, n, part) && opensParts(opens, parts, k + 1, i + 1, n);
    }
    int level = levelOf(part);
    if (opens[level][i]) {
      return true;
    }
    for (int m = i + 1; m <= n; m++) {
      if (count(level, i, m).signum() != 0 && opensParts(opens, parts, k + 1, m, n)) {
        return true;
      }
    }
    return false;
  }

  List<Node> trees(int level, int i, int j) {
    List<Node> all = new ArrayList<>();
    if (j - i == 1 && isAtom(i)) {
      all.add(new Node(-1, List.of(), i, 1));
    }
    if (isWord(i, j, "(") && isWord(j - 1, j, ")")) {
      for (Node within : trees(0, i + 1, j - 1)) {
        all.add(new Node(-2, List.of(within), i, j - i));
      }
    }
    for (int number = 0; number < notations.size(); number++) {
      if (notations.get(number).level >= level) {
        for (List<Node> nodes : fillings(notations.get(number).parts, 0, i, j)) {
          all.add(new Node(number, nodes, i, j - i));
        }
      }
    }
    return all;
  }

  private List<List<Node>> fillings(List<String> parts, int k, int i, int j) {
    List<List<Node>> all = new ArrayList<>();
    if (countParts(parts, k, i, j).signum() == 0) {
      return all;
    }
    if (k == parts.size()) {
      all.add(List.of());
      return all;
    }
    if (!parts.get(k).startsWith("_")) {
      return fillings(parts, k + 1, i + 1, j);
    }
    for (int m = i + 1; m <= j; m++) {
      for (List<Node> rest : fillings(parts, k + 1, m, j)) {
        for (Node first : trees(levelOf(parts.get(k)), i, m)) {
          List<Node> nodes = new ArrayList<>(List.of(first));
          nodes.addAll(rest);
          all.add(nodes);
        }
      }
    }
    return all;
  }

  String rows(Node tree) {
    List<String> rows = new ArrayList<>();
    addRows(tree, -1, rows);
    return String.join(" ", rows);
  }

  private void addRows(Node node, int holder, List<String> rows) {
    int number = rows.size();
    rows.add(node.kind + "/" + node.nodes.size() + "/" + places.get(node.first) + "/" + node.words
        + "/" + holder);
    for (Node child : node.nodes) {
      addRows(child, number, rows);
    }
  }

  String printed(Node tree) {
    List<String> printed = new ArrayList<>();
    addPrinted(tree, 0, printed);
    return String.join(" ", printed);
  }

  private void addPrinted(Node node, int hole, List<String> printed) {
    if (node.kind == -2) {
      addPrinted(node.nodes.get(0), hole, printed);
    } else if (node.kind == -1) {
      printed.add(words.get(node.first));
    } else {
      boolean bracketed = notations.get(node.kind).level < hole;
      if (bracketed) {
        printed.add("(");
      }
      int next = 0;
      for (String part : notations.get(node.kind).parts) {
        if (part.startsWith("_")) {
          addPrinted(node.nodes.get(next), levelOf(part), printed);
          next++;
        } else {
          printed.add(part);
        }
      }
      if (bracketed) {
        printed.add(")");
      }
    }
  }
}
