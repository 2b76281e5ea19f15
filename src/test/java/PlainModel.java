import java.util.ArrayList;
import java.util.List;
import java.util.NoSuchElementException;

/** The document's promises in their plainest form, for comparing whole runs of calls. */
final class PlainModel {
  final SlowReader reader = new SlowReader();
  private List<String> hand = new ArrayList<>();
  private String text = "";
  private String fault = "";
  private String[] nodes = {};
  private String printed = "";
  private String output = "";

  private static String low(long bytes, int n) {
    StringBuilder word = new StringBuilder();
    for (int k = n - 1; k >= 0; k--) {
      word.append((char) (bytes >>> 8 * k & 255));
    }
    return word.toString();
  }

  private static boolean isHole(String part) {
    return part.startsWith("_");
  }

  private int take(String part) {
    if (hand.size() == 6) {
      throw new IllegalStateException();
    }
    hand.add(part);
    return hand.size();
  }

  int hole(int level) {
    if (level < 0 || level > 10 || !hand.isEmpty() && isHole(hand.get(hand.size() - 1))) {
      throw new IllegalArgumentException();
    }
    return take("_" + level);
  }

  int word(long bytes, int n) {
    if (n < 1 || n > 8 || !SlowReader.isSpelled(low(bytes, n)) || low(bytes, n).matches("[()]")) {
      throw new IllegalArgumentException();
    }
    return take(low(bytes, n));
  }

  int notation(int level) {
    if (level < 0 || level > 9 || hand.stream().allMatch(PlainModel::isHole)) {
      hand.clear();
      throw new IllegalArgumentException();
    }
    if (reader.notations.size() == 12) {
      throw new IllegalStateException();
    }
    reader.notations.add(new SlowReader.Notation(level, hand));
    hand = new ArrayList<>();
    nodes = new String[0];
    return reader.notations.size() - 1;
  }

  boolean put(long bytes, int n) {
    if (n < 1 || n > 8 || text.length() + n > 200) {
      return false;
    }
    text += low(bytes, n);
    return true;
  }

  void clear() {
    text = "";
  }

  int read() {
    reader.take(text);
    nodes = new String[0];
    fault = "";
    String answer = reader.answer();
    if (answer.startsWith("fault ")) {
      fault = answer;
      throw new IllegalArgumentException();
    }
    if (answer.equals("1")) {
      SlowReader.Node tree = reader.trees(0, 0, reader.words.size()).get(0);
      nodes = reader.rows(tree).split(" ");
      printed = reader.printed(tree);
    }
    return Integer.parseInt(answer);
  }

  int fault(int what) {
    if (what != 0 && what != 1 || fault.isEmpty()) {
      return what == 0 ? 0 : -1;
    }
    return Integer.parseInt(fault.split(" ")[what == 0 ? 1 : 3]);
  }

  int node(int i, int what) {
    if (i < 0 || i >= nodes.length) {
      throw new NoSuchElementException();
    }
    return what < 0 || what > 4 ? -3 : Integer.parseInt(nodes[i].split("/")[what]);
  }

  int print() {
    if (nodes.length == 0) {
      throw new NoSuchElementException();
    }
    output = printed;
    return output.length();
  }

  int at(int i) {
    return i < 0 || i >= output.length() ? -1 : output.charAt(i);
  }

  boolean isKey(long bytes, int n) {
    if (n < 1 || n > 8 || !SlowReader.isSpelled(low(bytes, n))) {
      return false;
    }
    return reader.notations.stream().anyMatch(one -> one.parts().contains(low(bytes, n)));
  }

  int about(int what) {
    int[] all = {reader.notations.size(), hand.size(), text.length(), nodes.length, output.length()};
    return what < 0 || what > 4 ? -1 : all[what];
  }
}
