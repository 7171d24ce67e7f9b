import java.util.NoSuchElementException;

/** A HarbourDesk that takes and gives texts, and counts the answers that are not due. */
final class Desk {
  static int wrong = 0;
  static int asked = 0;
  // the document's sentence that is held now, told with each wrong answer
  static String sentence = "";
  final HarbourDesk x = new HarbourDesk();
  // what stands on the tape behind a text, and is no part of it
  char behind = ' ';

  static void due(String what, long got, long want) {
    asked++;
    if (got != want) {
      wrong++;
      System.out.println(sentence + what + " answered " + got + ", due is " + want);
    }
  }

  static void due(String what, String got, String want) {
    asked++;
    if (!got.equals(want)) {
      wrong++;
      System.out.println(sentence + what + " answered <" + got + ">, due is <" + want + ">");
    }
  }

  static void hold(String words) {
    sentence = "[" + words + "] ";
  }

  static void end() {
    System.out.println(asked + " answers, " + wrong + " wrong");
    System.exit(wrong == 0 ? 0 : 1);
  }

  /** Puts a text on the tape, with other bytes up to a multiple of twenty; answers its length. */
  int feed(String text) {
    for (int i = 0; i < text.length(); i += 20) {
      int[] five = new int[5];
      for (int k = 0; k < 20; k++) {
        int b = i + k < text.length() ? text.charAt(i + k) & 255 : behind;
        five[k / 4] = five[k / 4] << 8 | b;
      }
      x.feed(five[0], five[1], five[2], five[3], five[4]);
    }
    return text.length();
  }

  int describe(String text) { return x.describe(feed(text)); }
  int put(int sort, String text) { return x.put(sort, feed(text)); }
  int run(String text) { return x.run(feed(text)); }
  int ends(String text) { return x.ends(feed(text)); }

  String page() {
    StringBuilder all = new StringBuilder();
    int size = x.count(3);
    for (int k = 0; k < size; k++) all.append((char) x.octet(k));
    due("octet() behind the PAGE", x.octet(size), HarbourDesk.NONE);
    return all.toString();
  }

  String print(int r) {
    int n = x.print(r);
    String text = page();
    due("print(" + r + ")", n, text.length());
    return text;
  }

  String names(int sort) {
    StringBuilder all = new StringBuilder();
    int many = x.count(7 + sort);
    for (int k = 0; k < many; k++) {
      int n = x.show(sort, k);
      String name = page();
      due("show(" + sort + ", " + k + ")", n, name.length());
      if (k > 0) all.append(' ');
      all.append(name);
    }
    return all.toString();
  }

  String words() {
    StringBuilder all = new StringBuilder();
    int size = x.blame(5);
    for (int i = 0; i < size; i++) {
      if (i > 0) all.append('|');
      int sign = x.word(i, 0);
      for (int k = 1; sign != HarbourDesk.NONE; k++) {
        all.append((char) sign);
        sign = x.word(i, k);
      }
    }
    return all.toString();
  }

  String blames() {
    StringBuilder all = new StringBuilder();
    for (int what = 0; what <= 5; what++) all.append(what > 0 ? " " : "").append(x.blame(what));
    return all.toString();
  }

  /** describe() without a FAULT must give this number. */
  Desk tool(int number, String text) {
    due("describe " + text, describe(text), number);
    due("fault() behind " + text, x.fault(), HarbourDesk.NONE);
    return this;
  }

  void fault(String text, int fault, int place) {
    int tools = x.count(0);
    due("describe " + text, describe(text), fault - 10);
    due("fault() behind " + text, x.fault(), place);
    due("count(0) behind " + text, x.count(0), tools);
    due("count(2) behind " + text, x.count(2), 0);
  }

  void puts(int sort, String text, int want) {
    due("put " + sort + " " + text, put(sort, text), want);
    due("count(2) behind put " + text, x.count(2), 0);
  }

  void runs(String text, int record) {
    due("run " + text, run(text), record);
    due("blame(0) behind " + text, x.blame(0), 0);
    for (int what = 1; what <= 4; what++) due("blame(" + what + ") behind " + text, x.blame(what), HarbourDesk.NONE);
  }

  /** blames is what blame(0) to blame(5) answer, with blanks between. */
  void blamed(String text, String blames) {
    int records = x.count(1);
    int blame = Integer.parseInt(blames.split(" ")[0]);
    due("run " + text, run(text), blame - 20);
    due("blames of " + text, blames(), blames);
    due("count(1) behind " + text, x.count(1), records);
  }

  void endsAre(String text, String names) {
    int many = names.isEmpty() ? 0 : names.split(" ").length;
    due("ends " + text, ends(text), many);
    due("ENDS of " + text, names(0), names);
    due("blame(0) behind ends " + text, x.blame(0), 0);
  }

  void endsBlamed(String text, String blames) {
    int blame = Integer.parseInt(blames.split(" ")[0]);
    due("ends " + text, ends(text), blame - 20);
    due("blames of ends " + text, blames(), blames);
    due("count(7) behind ends " + text, x.count(7), 0);
  }

  interface Call { void go(); }

  /** want: 0 nothing is thrown, 1 IllegalArgument, 2 IllegalState, 3 NoSuchElement. */
  static void thrown(String what, Call call, int want) {
    int got = 0;
    try {
      call.go();
    } catch (IllegalArgumentException e) {
      got = 1;
    } catch (IllegalStateException e) {
      got = 2;
    } catch (NoSuchElementException e) {
      got = 3;
    }
    due("what is thrown by " + what, got, want);
  }

  static String times(String part, int n) {
    StringBuilder all = new StringBuilder();
    for (int i = 0; i < n; i++) all.append(part);
    return all.toString();
  }
}
