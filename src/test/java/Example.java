/** The example of README.md, which ReadmeTest compares with this file. */
final class Example {
  static void run(StringBuilder out) {
    // begin
    NotationParse x = new NotationParse();
    x.hole(6); x.word('+', 1); x.hole(7);        // _ + _, its holes of levels 6 and 7: 3 parts
    x.notation(6);                               // 0, the notation's number; its level is 6
    x.hole(7); x.word('*', 1); x.hole(8); x.notation(7);     // 1
    x.word(0x6e6f74L, 3); x.hole(9); x.notation(9);          // 2, the word n o t ahead of a hole
    out.append(x.isKey(0x6e6f74L, 3)).append('\n');          // n o t is a key now, no atom

    x.put(0x2828612b6229292aL, 8);               // ((a+b))*
    x.put(0x286e6f742063290aL, 8);               // (not c) and a line end
    out.append(x.read()).append(" tree\n");
    for (int i = 0; i < x.about(3); i++) {       // each node: which notation, how many nodes it
      for (int what = 0; what < 5; what++) {     // has, its place, its words, what holds it
        out.append(x.node(i, what)).append(what < 4 ? " " : "\n");
      }
    }
    int bytes = x.print();
    for (int i = 0; i < bytes; i++) {
      out.append((char) x.at(i));
    }
    out.append('\n');

    x.clear();
    x.put(0x612b2a62L, 4);                       // a+*b: one word +*, where none can stand
    try {
      x.read();
    } catch (IllegalArgumentException e) {
      out.append("fault ").append(x.fault(0)).append(" at ").append(x.fault(1)).append('\n');
    }
    // end
  }
}
