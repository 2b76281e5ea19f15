import java.util.ArrayList;
import java.util.List;
import java.util.Random;

/** Random notations of a few words, and texts that have trees by them or nearly have one. */
final class RandomTexts {
  static String[] vocabulary(Random random) {
    String[] all = {"+", "*", "if", "of", ",", "[", "]", "7", "a", "-", "**", ";"};
    String[] some = new String[1 + random.nextInt(5)];
    for (int i = 0; i < some.length; i++) {
      some[i] = all[random.nextInt(all.length)];
    }
    return some;
  }

  static SlowReader.Notation notation(Random random, String[] vocabulary) {
    int highest = random.nextInt(11);
    boolean hasWord = false;
    List<String> parts = new ArrayList<>();
    int length = 1 + random.nextInt(6);
    while (parts.size() < length || !hasWord) {
      boolean afterHole = !parts.isEmpty() && parts.get(parts.size() - 1).startsWith("_");
      if (afterHole || random.nextInt(3) == 0) {
        parts.add(vocabulary[random.nextInt(vocabulary.length)]);
        hasWord = true;
      } else {
        parts.add("_" + random.nextInt(highest + 1));
      }
    }
    int level = Math.min(9, random.nextInt(3) == 0 ? random.nextInt(10) : highest);
    return new SlowReader.Notation(level, parts);
  }

  static String text(Random random, SlowReader reader, String[] vocabulary) {
    List<String> words = new ArrayList<>();
    if (random.nextInt(6) == 0) {
      int n = random.nextInt(8);
      for (int i = 0; i < n; i++) {
        words.add(anyWord(random, vocabulary));
      }
    } else {
      term(random, reader, 0, 1 + random.nextInt(6), words);
    }
    if (random.nextInt(3) == 0 && !words.isEmpty()) {
      int at = random.nextInt(words.size());
      switch (random.nextInt(4)) {
        case 0 -> words.remove(at);
        case 1 -> words.add(at, anyWord(random, vocabulary));
        case 2 -> words.set(at, anyWord(random, vocabulary));
        default -> words.subList(at, words.size()).clear();
      }
    }
    String text = join(random, words);
    return text.substring(0, Math.min(200, text.length()));
  }

  private static String join(Random random, List<String> words) {
    boolean tight = random.nextInt(3) == 0;
    StringBuilder text = new StringBuilder(random.nextInt(6) == 0 ? "\n" : "");
    for (String word : words) {
      text.append(word).append(tight && random.nextInt(2) == 0 ? "" : " ");
    }
    return text.toString();
  }

  private static String anyWord(Random random, String[] vocabulary) {
    String[] others = {"(", ")", "b", "8", "abcdefgh", "abcdefghi", "_", "?", "{"};
    return random.nextInt(3) == 0 ? others[random.nextInt(others.length)]
        : vocabulary[random.nextInt(vocabulary.length)];
  }

  private static void term(Random random, SlowReader reader, int level, int depth, List<String> words) {
    List<SlowReader.Notation> fit = new ArrayList<>();
    for (SlowReader.Notation notation : reader.notations) {
      if (notation.level() >= level) {
        fit.add(notation);
      }
    }
    if (depth > 0 && !fit.isEmpty() && random.nextInt(5) != 0 && words.size() < 24) {
      for (String part : fit.get(random.nextInt(fit.size())).parts()) {
        if (part.startsWith("_")) {
          term(random, reader, Integer.parseInt(part.substring(1)), depth - 1, words);
        } else {
          words.add(part);
        }
      }
    } else if (depth > 0 && random.nextInt(3) != 0) {
      words.add("(");
      term(random, reader, 0, depth - 1, words);
      words.add(")");
    } else {
      words.add(random.nextBoolean() ? "x" : "9");
    }
  }
}
