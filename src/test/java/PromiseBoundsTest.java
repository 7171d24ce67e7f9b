/** The bounds that promises 1 to 10 name, sentence by sentence: the TAPE, describe, rows, run, blame, word, count. */
public final class PromiseBoundsTest {
  static final int[] FAR = {Integer.MAX_VALUE, Integer.MIN_VALUE};

  public static void main(String[] args) {
    fresh();
    feedBytes();
    feedFull();
    describeNumber();
    describeThrows();
    firstBytesOfDescriptions();
    firstBytesOfLines();
    firstBytesOfRows();
    faultPlace();
    keysOfNames();
    keysOfSettings();
    firstEquals();
    rowValues();
    aliasLines();
    inItsPlace();
    twentyRows();
    putThrows();
    clears();
    runNumber();
    runThrows();
    blameNumbers();
    blameWords();
    blamePlaces();
    blameOptions();
    blameSources();
    blameCounts();
    words();
    counts();
    endsThrows();
    throwsLeaveAll();
    Desk.end();
  }

  static void fresh() {
    Desk.hold("No TOOLS, ALIASES, rows, RECORDS; TAPE and PAGE empty");
    Desk d = new Desk();
    for (int what = 0; what <= 8; what++) Desk.due("count(" + what + ")", d.x.count(what), 0);
    Desk.due("octet(0)", d.x.octet(0), -1);
    Desk.due("fault()", d.x.fault(), -1);
    Desk.thrown("describe(1)", () -> d.x.describe(1), 1);
    Desk.thrown("run(1)", () -> d.x.run(1), 1);
    Desk.due("ends(0)", d.x.ends(0), 0);
    Desk.due("run(0)", d.x.run(0), -16);
    Desk.due("put(0, 0)", d.x.put(0, 0), 0);
    Desk.due("describe(0)", d.x.describe(0), -9);
    Desk other = new Desk().tool(0, "tool a end;");
    Desk.due("another object", other.x.count(0), 1);
    Desk.due("is another", d.x.count(0), 0);
  }

  static void feedBytes() {
    Desk.hold("Twenty bytes come on the TAPE, of each number the highest first");
    Desk d = new Desk().tool(0, "tool a rest r text; end;");
    Desk.due("feed", d.x.feed(0x61202722, 0x23247e7d, 0x21275c5c, 0x41425a39, 0x272d2720), 20);
    Desk.due("run", d.x.run(20), 0);
    Desk.due("its WORDS", d.words(), "a|\"#$~}!\\ABZ9-");
    int[] bad = {0x80, 0xff, 0x7f, 0};
    for (int b : bad) {
      for (int k = 0; k < 4; k++) {
        d.x.feed(0x61202020, 0x20202020 & ~(255 << 8 * k) | b << 8 * k, 0x20202020, 0x20202020, 0x20202020);
        Desk.due("byte " + b, d.x.run(20), -19);
        Desk.due("its place", d.x.blame(2), 7 - k);
      }
    }
    for (int at = 0; at < 5; at++) {
      int[] five = {0x20202020, 0x20202020, 0x20202020, 0x20202020, 0x20202020};
      five[at] = -1;
      d.x.feed(five[0], five[1], five[2], five[3], five[4]);
      Desk.due("number " + at, d.x.run(20), -19);
      Desk.due("its place", d.x.blame(2), 4 * at);
    }
    d.feed("x");
    d.feed("y");
    Desk.due("behind the others", d.x.run(21), -15);
    Desk.due("WORDS", d.words(), "x|y");
  }

  static void feedFull() {
    Desk.hold("how many there are; NONE, doing nothing, if there would be more than 2,000");
    Desk d = new Desk();
    for (int i = 1; i <= 100; i++) Desk.due("feed " + i, d.x.feed(0x20202020, 0x20202020, 0x20202020, 0x20202020, 0x20202020), 20 * i);
    for (int i = 0; i < 3; i++) Desk.due("feed beyond", d.x.feed(-1, -1, -1, -1, -1), -1);
    Desk.due("TAPE", d.x.count(2), 2000);
    Desk.due("all are blanks", d.x.describe(2000), -9);
    Desk.due("its end", d.x.fault(), 2000);
    Desk.due("TAPE", d.x.count(2), 0);
    Desk.due("feed again", d.x.feed(0, 0, 0, 0, 0), 20);
  }

  static void describeNumber() {
    Desk.hold("The first n bytes of the TAPE (empty then) are a TOOL: its number, or its FAULT less 10; with one nothing comes");
    Desk d = new Desk();
    for (int i = 0; i < 12; i++) {
      d.feed("tool t" + i + " end; and more");
      Desk.due("number", d.x.describe(("tool t" + i + " end;").length()), i);
      Desk.due("TAPE", d.x.count(2), 0);
      Desk.due("TOOLS", d.x.count(0), i + 1);
    }
    Desk e = new Desk();
    e.tool(0, "tool a end;");
    e.fault("tool b opt x flag; sub s opt y int; end; opt x flag; end;", 2, 45);
    e.blamed("b", "5 0 0 -1 -1 1");
    e.tool(1, "tool b end;");
    e.blamed("b --x", "6 1 2 -1 -1 2");
    e.blamed("b s", "10 1 0 -1 -1 2");
    e.runs("a", 0);
    StringBuilder forty = new StringBuilder("tool c ");
    for (int i = 0; i < 40; i++) forty.append("opt o" + i + " int; ");
    for (int i = 0; i < 16; i++) forty.append("sub s" + i + " rest r int; end; ");
    e.fault(forty + "bad", 1, forty.length());
    e.tool(2, forty + "end;");
    e.runs("c --o0=5 --o39=6", 1);
    Desk.due("the first OPTION", e.x.value(1, 0), 5);
    Desk.due("the last OPTION", e.x.value(1, 39), 6);
  }

  static void describeThrows() {
    Desk.hold("IllegalArgumentException: n is not 0 to the TAPE's bytes");
    Desk d = new Desk();
    int[] none = {-1, 1, 20};
    for (int n : none) Desk.thrown("describe(" + n + ")", () -> d.x.describe(n), 1);
    d.feed("tool a end;");
    int[] beyond = {-1, 21, 2000};
    for (int n : beyond) Desk.thrown("describe(" + n + ")", () -> d.x.describe(n), 1);
    for (int n : FAR) Desk.thrown("describe(" + n + ")", () -> d.x.describe(n), 1);
    Desk.due("the TAPE stays", d.x.count(2), 20);
    Desk.due("describe(20)", d.x.describe(20), 0);
    d.feed("tool b end;");
    Desk.due("describe(0)", d.x.describe(0), -9);
    Desk.due("TAPE", d.x.count(2), 0);
  }

  /** What stands on the TAPE behind n is no part of it: every n, and what could go on with any token. */
  static void firstBytesOfDescriptions() {
    Desk.hold("The first n bytes of the TAPE are a TOOL");
    String whole = "tool abc opt bb one(p,q9)short\"s\"default q9 env e not c;opt c int min -123456 max 9;rest r text need;sub s end;end;";
    for (int n = 0; n <= whole.length(); n++) {
      Desk alone = new Desk();
      alone.behind = '\t';
      int want = alone.describe(whole.substring(0, n));
      Desk d = new Desk();
      d.feed(whole);
      Desk.due("describe(" + n + ")", d.x.describe(n), want);
      Desk.due("fault() of " + n, d.x.fault(), alone.x.fault());
      Desk.due("TOOLS of " + n, want, n == whole.length() ? 0 : want);
    }
    String[] ends = {"tool", "tool a", "tool a1", "tool a opt x int max 1", "tool a opt x int max 123456", "tool a opt x flag", "tool a end"};
    for (String text : ends) {
      for (char behind : "a1-;\" ".toCharArray()) {
        Desk d = new Desk();
        d.behind = behind;
        d.fault(text, 1, text.length());
        Desk full = new Desk();
        full.fault(Desk.times(" ", 2000 - text.length()) + text, 1, 2000);
      }
    }
    Desk text = new Desk();
    text.behind = '"';
    text.fault("tool a opt x text default \"ab", 1, 26);
    Desk minus = new Desk();
    minus.behind = '1';
    minus.fault("tool a opt x int max -", 1, 21);
  }

  static void firstBytesOfLines() {
    Desk.hold("The first n bytes of the TAPE are a LINE");
    String whole = "a 'b c' \"d\\\"e\"f\\ g --txt=x -- # h";
    for (char behind : " \n\t'\"\\#x\u007f".toCharArray()) {
      for (int n = 0; n <= whole.length(); n++) {
        Desk alone = new Desk().tool(0, "tool a opt txt text; rest r text; end;");
        alone.feed(whole);
        Desk d = new Desk().tool(0, "tool a opt txt text; rest r text; end;");
        d.behind = behind;
        // a row of bytes of its own, so that there is always one behind n
        d.feed(whole.substring(0, n) + behind);
        Desk.due("run(" + n + ") ahead of byte " + (int) behind, d.x.run(n), alone.x.run(n));
        Desk.due("blames", d.blames(), alone.blames());
        Desk.due("WORDS", d.words(), alone.words());
        alone.feed(whole);
        d.feed(whole.substring(0, n) + behind);
        Desk.due("ends(" + n + ") ahead of byte " + (int) behind, d.x.ends(n), alone.x.ends(n));
        Desk.due("blames", d.blames(), alone.blames());
        Desk.due("ENDS", d.names(0), alone.names(0));
      }
    }
    String forty = Desk.times("y", 40);
    String[] open = {"a 'b", "a \"b", "a \"b\\", "a '" + forty, "a \"" + forty};
    for (String line : open) {
      for (char behind : "x'\"\t\\ ".toCharArray()) {
        Desk d = new Desk().tool(0, "tool a rest r text; end;");
        d.feed(line + behind);
        Desk.due("run " + line, d.x.run(line.length()), -19);
        Desk.due("place of " + line, d.x.blame(2), 2);
      }
    }
  }

  static void firstBytesOfRows() {
    Desk.hold("The first n bytes of the TAPE are KEY = VALUE");
    for (int sort = 0; sort < 3; sort++) {
      Desk d = new Desk();
      for (char behind : "x=. \n'".toCharArray()) {
        d.feed("key=v" + behind);
        Desk.due("put", d.x.put(sort, 5), 1);
        d.feed("key" + behind + "=");
        Desk.due("put without =", d.x.put(sort, 3), 0);
      }
      Desk.due("rows", d.x.count(4 + sort), 1);
      d.feed(Desk.times("k", 2000));
      Desk.due("put of a full TAPE", d.x.put(sort, 2000), 0);
      d.feed("k=" + Desk.times("k", 1998));
      Desk.due("put of a full TAPE", d.x.put(sort, 2000), 0);
      d.feed(Desk.times("k", 1999) + "=");
      Desk.due("put of a full TAPE", d.x.put(sort, 2000), 0);
    }
  }

  static void faultPlace() {
    Desk.hold("The place of the FAULT of the latest describe(); NONE without");
    Desk d = new Desk();
    Desk.due("ahead of any", d.x.fault(), -1);
    d.describe("tool a bad");
    Desk.due("of a FAULT", d.x.fault(), 7);
    d.describe("tool a end; bad");
    Desk.due("of the latest", d.x.fault(), 12);
    d.run("b");
    d.puts(0, "b", 0);
    Desk.thrown("describe(9)", () -> d.x.describe(9), 1);
    Desk.due("other calls leave it", d.x.fault(), 12);
    d.describe("tool a end;");
    Desk.due("without", d.x.fault(), -1);
  }

  static void keysOfNames() {
    Desk.hold("a row of the ENVIRONMENT (0; KEY a NAME), an ALIAS (2; KEY a NAME)");
    String[] right = {"a", "z", "a0", "a-9", "abcdefghi", "abcdefghij", "no-x", "tools"};
    String[] none = {"", "A", "9", "-", "a-", "-a", "abcdefghijk", "abcdefghi-", "a_b", "a.b", "a b", " a", "a ", "aB", "a\n", "tool", "int", "no", "\"a\""};
    for (int sort = 0; sort <= 2; sort += 2) {
      Desk d = new Desk();
      for (String key : right) d.puts(sort, key + "=x", 1);
      for (String key : none) d.puts(sort, key + "=x", 0);
      Desk.due("rows", d.x.count(4 + sort), right.length);
    }
  }

  static void keysOfSettings() {
    Desk.hold("SETTINGS (1; KEY one to six NAMES with . between)");
    Desk d = new Desk();
    StringBuilder key = new StringBuilder("abcdefghij");
    for (int n = 1; n <= 7; n++) {
      d.puts(1, key + "=x", n <= 6 ? 1 : 0);
      key.append(".abcdefghij");
    }
    Desk.due("rows", d.x.count(5), 6);
    String[] none = {"", ".", "a.", ".a", "a..b", "a.b.", "a.B", "a.b-", "a. b", "a .b", "a.int", "int.a", "a.abcdefghijk", "a,b", "a.9"};
    for (String text : none) d.puts(1, text + "=x", 0);
    d.puts(1, "a.b.c.d.e.f=x", 1);
    d.puts(1, "a.b.c.d.e.f.=x", 0);
    Desk.due("rows", d.x.count(5), 7);
  }

  static void firstEquals() {
    Desk.hold("KEY = VALUE, without blanks but those of the VALUE: all ahead of the first = , all behind it");
    Desk d = new Desk().tool(0, "tool a opt x text env e; end;");
    String[] values = {"", "=", "b=c", " b", "b ", " = "};
    for (int i = 0; i < values.length; i++) {
      d.puts(0, "e=" + values[i], 1);
      d.runs("a", i);
      Desk.due("bytes of <" + values[i] + ">", d.x.value(i, 0), values[i].length());
      for (int k = 0; k < values[i].length(); k++) Desk.due("byte " + k, d.x.item(i, 0, k), values[i].charAt(k));
    }
    d.puts(0, "", 0);
    d.puts(0, "e", 0);
    d.puts(0, "=", 0);
    d.puts(0, "e =b", 0);
    d.puts(0, " e=b", 0);
    d.feed("e=bcd");
    Desk.due("n alone counts", d.x.put(0, 3), 1);
    d.runs("a", 6);
    Desk.due("n alone counts", d.x.value(6, 0), 1);
    d.feed("e=bcd");
    Desk.due("= is beyond n", d.x.put(0, 1), 0);
  }

  static void rowValues() {
    Desk.hold("the VALUE has more than 60 bytes, or others than 32 to 126");
    for (int sort = 0; sort < 3; sort++) {
      Desk d = new Desk();
      for (int n = 58; n <= 62; n++) d.puts(sort, "k=" + Desk.times("x ", 29) + Desk.times(" ", n - 58), n <= 60 ? 1 : 0);
      d.puts(sort, "abcdefghij=" + Desk.times(" ", 60), 1);
      d.puts(sort, "abcdefghij=" + Desk.times(" ", 61), 0);
      Desk.due("rows", d.x.count(4 + sort), 2);
      for (int b = 0; b < 256; b++) {
        if (b % 64 == 0) d = new Desk();
        boolean quote = sort == 2 && (b == '\'' || b == '"' || b == '\\');
        d.puts(sort, "m=x" + (char) b, b >= 32 && b <= 126 && !quote ? 1 : 0);
      }
    }
  }

  static void aliasLines() {
    Desk.hold("VALUE a LINE, which is cut at once; 0 if a LINE has a BLAME");
    Desk d = new Desk();
    String[] right = {"", " ", "#", "x # '", "'x y'", "\"\\\"\"", "x\\ ", "k", Desk.times("y", 40), "'" + Desk.times("y", 40) + "'", Desk.times("y ", 30),
      "no such tool --at all"};
    for (String line : right) d.puts(2, "k=" + line, 1);
    String[] none = {"'", "\"", "x 'y", "x \"y\\\"", "x\\", Desk.times("y", 41), "'" + Desk.times("y", 41) + "'"};
    for (String line : none) d.puts(2, "k=" + line, 0);
    Desk.due("rows", d.x.count(6), 1);
    for (String line : none) d.puts(0, "k=" + line, 1);
    Desk e = new Desk().tool(0, "tool a rest r text; end;");
    e.runs("a --", 0);
    e.puts(2, "k=b c", 1);
    Desk.due("the latest LINE stays", e.words(), "a|--");
    e.puts(2, "k='", 0);
    Desk.due("its BLAME, too", e.blames(), "0 -1 -1 -1 -1 2");
    e.puts(2, "k=a x", 1);
    e.puts(2, "k='", 0);
    e.runs("k", 1);
    Desk.due("nothing happens with a 0", e.words(), "a|x");
    e.x.clear(2);
    e.puts(2, "m=" + Desk.times("a ", 30), 1);
    e.runs("m", 2);
    Desk.due("30 WORDS", e.x.blame(5), 30);
  }

  static void inItsPlace() {
    Desk.hold("1, and it is there, in the place of one with this KEY, or behind the others");
    Desk d = new Desk().tool(0, "tool a opt x int env e; opt y int env f; end;");
    d.puts(2, "k=a", 1);
    d.puts(2, "l=a", 1);
    d.puts(2, "m=a", 1);
    d.puts(2, "k=a --x=1", 1);
    d.puts(2, "l=a --x=2 --y=2", 1);
    Desk.due("rows", d.x.count(6), 3);
    d.endsAre("", "a k l m");
    d.runs("k", 0);
    d.runs("l", 1);
    Desk.due("k", d.print(0), "a --x=1");
    Desk.due("l", d.print(1), "a --x=2 --y=2");
    d.puts(2, "l=", 1);
    d.blamed("l", "4 -1 0 -1 -1 0");
    d.puts(0, "e=1", 1);
    d.puts(0, "f=2", 1);
    d.puts(0, "e=3", 1);
    Desk.due("rows", d.x.count(4), 2);
    d.runs("a", 2);
    Desk.due("e", d.x.value(2, 0), 3);
    Desk.due("f", d.x.value(2, 1), 2);
    d.puts(0, "e=" + Desk.times("4", 61), 0);
    d.runs("a", 3);
    Desk.due("nothing happens with a 0", d.x.value(3, 0), 3);
    Desk.due("a sort of its own", d.x.count(5), 0);
  }

  static void twentyRows() {
    Desk.hold("0, and nothing happens, if there are 20 of this sort");
    for (int sort = 0; sort < 3; sort++) {
      Desk d = new Desk().tool(0, "tool a opt x text env k0; end;");
      for (int i = 0; i < 19; i++) d.puts(sort, "k" + i + "=" + i, 1);
      d.puts(sort, "k0=new", 1);
      Desk.due("rows", d.x.count(4 + sort), 19);
      d.puts(sort, "k19=19", 1);
      d.puts(sort, "k20=20", 0);
      d.puts(sort, "k0=newest", 0);
      Desk.due("rows", d.x.count(4 + sort), 20);
      if (sort == 0) Desk.due("the row stays", d.run("a") == 0 ? d.print(0) : "", "a --x=new");
      d.puts((sort + 1) % 3, "k20=20", 1);
      Desk.due("clear", d.x.clear(sort), 20);
      d.puts(sort, "k20=20", 1);
      Desk.due("rows", d.x.count(4 + sort), 1);
    }
  }

  static void putThrows() {
    Desk.hold("put(): IllegalArgumentException: n likewise, or no such sort");
    Desk d = new Desk();
    d.feed("k=x");
    int[] lengths = {-1, 21, Integer.MAX_VALUE, Integer.MIN_VALUE};
    int[] sorts = {-1, 3, Integer.MAX_VALUE, Integer.MIN_VALUE};
    for (int n : lengths) {
      for (int sort = 0; sort < 3; sort++) {
        int at = sort;
        Desk.thrown("put(" + sort + ", " + n + ")", () -> d.x.put(at, n), 1);
      }
    }
    for (int sort : sorts) Desk.thrown("put(" + sort + ", 3)", () -> d.x.put(sort, 3), 1);
    Desk.due("the TAPE stays", d.x.count(2), 20);
    Desk.due("put(0, 20)", d.x.put(0, 20), 1);
    Desk.due("TAPE", d.x.count(2), 0);
    Desk.due("put(2, 0)", d.x.put(2, 0), 0);
  }

  static void clears() {
    Desk.hold("All rows of a sort go: how many. IllegalArgumentException likewise");
    Desk d = new Desk();
    for (int sort = 0; sort < 3; sort++) {
      for (int i = 0; i <= sort; i++) d.puts(sort, "k" + i + "=x", 1);
    }
    int[] sorts = {-1, 3, Integer.MAX_VALUE, Integer.MIN_VALUE};
    for (int sort : sorts) Desk.thrown("clear(" + sort + ")", () -> d.x.clear(sort), 1);
    for (int sort = 2; sort >= 0; sort--) {
      Desk.due("rows", d.x.count(4 + sort), sort + 1);
      Desk.due("clear(" + sort + ")", d.x.clear(sort), sort + 1);
      Desk.due("rows", d.x.count(4 + sort), 0);
      Desk.due("clear(" + sort + ") again", d.x.clear(sort), 0);
    }
    d.feed("k=x");
    d.x.clear(0);
    Desk.due("the TAPE stays", d.x.count(2), 20);
  }

  static void runNumber() {
    Desk.hold("The first n bytes of the TAPE (empty then) are a LINE that is run: the RECORD's number, or its BLAME less 20");
    Desk d = new Desk().tool(0, "tool a opt n int max 5; opt m int need; opt f flag not m; opt w flag with f; opt e flag; rest r int need; sub s end; end;");
    d.puts(2, "k=k", 1);
    d.puts(1, "a.e=x", 1);
    String[] lines = {"'", Desk.times("x", 41), "k", "", "x", "a --x", "a --f=", "a --n", "a --n=1 --n=1", "a s x", "a --n=x", "a", "a --e",
      "a --e --n=6", "a --e --m=1 --f", "a --e --m=1 --w", "a --e --m=1"};
    for (int i = 0; i < lines.length; i++) {
      d.feed(lines[i] + " and more");
      Desk.due("run " + lines[i], d.x.run(lines[i].length()), i - 19);
      Desk.due("TAPE", d.x.count(2), 0);
      Desk.due("RECORDS", d.x.count(1), 0);
      Desk.due("BLAME", d.x.blame(0), i + 1);
    }
    d.runs("a --e --m=1 5", 0);
    d.runs("a --e --m=1 5", 1);
  }

  static void runThrows() {
    Desk.hold("run(): IllegalArgumentException: n likewise, or above 400; IllegalStateException: there are 40 RECORDS");
    Desk d = new Desk().tool(0, "tool a end;");
    Desk.thrown("run(1)", () -> d.x.run(1), 1);
    d.feed(Desk.times(" ", 420));
    int[] lengths = {-1, 401, 402, 420, 421, Integer.MAX_VALUE, Integer.MIN_VALUE};
    for (int n : lengths) Desk.thrown("run(" + n + ")", () -> d.x.run(n), 1);
    Desk.due("the TAPE stays", d.x.count(2), 420);
    Desk.due("run(400)", d.x.run(400), -16);
    d.feed(Desk.times(" ", 400));
    Desk.due("run(399)", d.x.run(399), -16);
    for (int i = 0; i < 39; i++) d.run("a");
    d.runs("a", 39);
    d.feed("a");
    Desk.thrown("with 40 RECORDS", () -> d.x.run(1), 2);
    Desk.thrown("with 40 RECORDS, n 0", () -> d.x.run(0), 2);
    Desk.thrown("with 40 RECORDS, n -1", () -> d.x.run(-1), 1);
    Desk.thrown("with 40 RECORDS, n 21", () -> d.x.run(21), 1);
    Desk.due("the TAPE stays", d.x.count(2), 20);
    Desk.due("ends() goes on", d.x.ends(1), 1);
  }

  static void blameNumbers() {
    Desk.hold("blame: 0 its BLAME (0 without; then NONE for 1 to 4). NONE for others; ahead of any 0 for 0 and 5, NONE else");
    Desk d = new Desk().tool(0, "tool a end;");
    Desk.due("ahead of any", d.blames(), "0 -1 -1 -1 -1 0");
    int[] others = {-1, 6, 7, Integer.MAX_VALUE, Integer.MIN_VALUE};
    for (int what : others) Desk.due("blame(" + what + ")", d.x.blame(what), -1);
    d.run("a x");
    Desk.due("with one", d.blames(), "10 1 0 -1 -1 2");
    for (int what : others) Desk.due("blame(" + what + ")", d.x.blame(what), -1);
    d.describe("tool b bad");
    d.puts(0, "b", 0);
    Desk.due("other calls leave it", d.blames(), "10 1 0 -1 -1 2");
    d.run("a");
    Desk.due("without", d.blames(), "0 -1 -1 -1 -1 1");
    for (int what : others) Desk.due("blame(" + what + ")", d.x.blame(what), -1);
    d.ends("a x ");
    Desk.due("of ends()", d.blames(), "10 1 0 -1 -1 2");
    d.ends("a x");
    Desk.due("of ends() without", d.blames(), "0 -1 -1 -1 -1 1");
  }

  static final String ALL = "tool a opt n int max 5 short \"n\"; opt m int need; opt f flag not m; opt w flag with f; opt e flag env e; rest r int need; sub s end; end;";

  static Desk desk() {
    Desk d = new Desk().tool(0, ALL);
    d.puts(2, "k=k 1 2", 1);
    d.puts(2, "b=a --n", 1);
    return d;
  }

  static void blameWords() {
    Desk.hold("1 the WORD (with ALIASES put in; of 3, 5 the first one, 0; NONE of 1, 2, 4, 12 to 17)");
    String[] lines = {"a '", "a " + Desk.times("x", 41), "k x", "", "x y", "a 1 --x", "a 1 2 --f=", "a 1 --n", "a 1 --n=1 --n=1", "a s x", "b 1 2 x"};
    int[] want = {-1, -1, 0, -1, 0, 2, 3, 2, 3, 2, 4};
    for (int i = 0; i < lines.length; i++) {
      Desk d = desk();
      Desk.due("run " + lines[i], d.run(lines[i]), i - 19);
      Desk.due("WORD of " + lines[i], d.x.blame(1), want[i]);
    }
    Desk d = desk();
    Desk.due("the VALUE's own WORD", d.run("b x"), -9);
    Desk.due("the VALUE's own WORD", d.x.blame(1), 2);
    d.puts(0, "e=x", 1);
    String[] later = {"a", "a --e", "a --e --n=6", "a --e --m=1 --f", "a --e --m=1 --w", "a --e --m=1"};
    for (int i = 0; i < later.length; i++) {
      Desk.due("run " + later[i], d.run(later[i]), i - 8);
      Desk.due("WORD of " + later[i], d.x.blame(1), -1);
    }
  }

  static void blamePlaces() {
    Desk.hold("2 the place in the LINE (of 1, 2 by cutting), in the WORD (of 6 to 9 as told), 0 of all else");
    String[] lines = {"a  '", "a  " + Desk.times("x", 41), "k x", "", "x y", "a --x", "a --f=", "a --n", "a --n=1 --n=1", "a s x", "a --n=x"};
    int[] want = {3, 3, 0, 0, 0, 2, 2, 2, 2, 0, 0};
    for (int i = 0; i < lines.length; i++) {
      Desk d = desk();
      Desk.due("run " + lines[i], d.run(lines[i]), i - 19);
      Desk.due("place of " + lines[i], d.x.blame(2), want[i]);
    }
    Desk d = desk();
    d.blamed("a -x", "6 1 1 -1 -1 2");
    d.blamed("a -n", "8 1 1 0 -1 2");
    d.blamed("a --n=1 -n1", "9 2 1 0 -1 3");
    d.blamed("k" + Desk.times(" x", 59), "2 -1 0 -1 -1 0");
    d.puts(0, "e=x", 1);
    String[] later = {"a", "a --e", "a --e --n=6", "a --e --m=1 --f", "a --e --m=1 --w", "a --e --m=1"};
    for (String line : later) {
      d.run(line);
      Desk.due("place of " + line, d.x.blame(2), 0);
    }
  }

  static void blameOptions() {
    Desk.hold("3 the OPTION (of 7 to 9, 11 to 16, NONE of rest; NONE else)");
    String[] lines = {"a '", "a " + Desk.times("x", 41), "k x", "", "x y", "a --x", "a --f=", "a --n", "a --n=1 --n=1", "a s x", "a --m=x"};
    int[] want = {-1, -1, -1, -1, -1, -1, 2, 0, 0, -1, 1};
    for (int i = 0; i < lines.length; i++) {
      Desk d = desk();
      d.run("a --f=");
      Desk.due("run " + lines[i], d.run(lines[i]), i - 19);
      Desk.due("OPTION of " + lines[i], d.x.blame(3), want[i]);
    }
    Desk d = desk();
    Desk.due("of rest", d.run("a x"), -9);
    Desk.due("of rest", d.x.blame(3), -1);
    d.puts(0, "e=x", 1);
    String[] later = {"a", "a --e", "a --e --n=6", "a --e --m=1 --f", "a --e --m=1 --w", "a --e --m=1"};
    int[] options = {4, 1, 0, 2, 3, -1};
    for (int i = 0; i < later.length; i++) {
      d.run(later[i]);
      Desk.due("OPTION of " + later[i], d.x.blame(3), options[i]);
    }
  }

  static void blameSources() {
    Desk.hold("4 the SOURCE (of 12: 1, 2; NONE else)");
    Desk d = desk();
    d.puts(0, "e=x", 1);
    d.run("a");
    Desk.due("ENVIRONMENT", d.x.blame(4), 1);
    d.run("a --e");
    Desk.due("13", d.x.blame(4), -1);
    d.x.clear(0);
    d.puts(1, "a.e=x", 1);
    d.run("a");
    Desk.due("SETTINGS", d.x.blame(4), 2);
    String[] lines = {"a '", "a " + Desk.times("x", 41), "k x", "", "x y", "a --x", "a --f=", "a --n", "a --n=1 --n=1", "a s x", "a --m=x",
      "a --e --n=6", "a --e --m=1 --f", "a --e --m=1 --w", "a --e --m=1"};
    for (String line : lines) {
      d.run("a");
      d.run(line);
      Desk.due("SOURCE of " + line, d.x.blame(4), -1);
    }
  }

  static void blameCounts() {
    Desk.hold("5 how many WORDS there were when ALIASES were put in (of 3 then; 0 of 1, 2; of ends() those ahead of the STEM)");
    Desk d = desk();
    d.run("a x y");
    Desk.due("without ALIAS", d.x.blame(5), 3);
    d.run("b 5 6");
    Desk.due("with an ALIAS", d.x.blame(5), 4);
    d.run("k 3");
    Desk.due("of 3", d.x.blame(5), 4);
    d.run("a x '");
    Desk.due("of 1", d.x.blame(5), 0);
    Desk.due("no WORD of 1", d.x.word(0, 0), -1);
    d.run("a " + Desk.times("x", 41));
    Desk.due("of 2", d.x.blame(5), 0);
    d.run("b" + Desk.times(" x", 59));
    Desk.due("of 2 by ALIASES", d.x.blame(0) + " " + d.x.blame(5), "2 0");
    d.run("");
    Desk.due("of 4", d.x.blame(5), 0);
    d.run("x y z");
    Desk.due("of 5", d.x.blame(5), 3);
    d.ends("a --m 1 2");
    Desk.due("of ends()", d.x.blame(5), 3);
    d.ends("b 2 ");
    Desk.due("of ends() with an ALIAS", d.x.blame(5), 3);
    d.ends("a");
    Desk.due("of the STEM alone", d.x.blame(5), 0);
    d.ends("a '");
    Desk.due("of 1 in ends()", d.x.blame(5), 0);
  }

  static void words() {
    Desk.hold("Byte k of WORD i of those; NONE");
    Desk d = new Desk().tool(0, "tool a rest r text; end;");
    Desk.due("ahead of any", d.x.word(0, 0), -1);
    d.run("a '' " + Desk.times("x", 39) + "y");
    Desk.due("the first", d.x.word(0, 0), 'a');
    Desk.due("behind it", d.x.word(0, 1), -1);
    Desk.due("an empty one", d.x.word(1, 0), -1);
    Desk.due("byte 39", d.x.word(2, 39), 'y');
    Desk.due("byte 40", d.x.word(2, 40), -1);
    int[] far = {-1, Integer.MAX_VALUE, Integer.MIN_VALUE};
    for (int k : far) Desk.due("byte " + k, d.x.word(2, k), -1);
    int[] others = {-1, 3, 59, 60, 61, Integer.MAX_VALUE, Integer.MIN_VALUE};
    for (int i : others) Desk.due("WORD " + i, d.x.word(i, 0), -1);
    d.run("a x");
    Desk.due("of a shorter LINE", d.x.word(2, 0), -1);
    d.ends("a bc de");
    Desk.due("of ends()", d.words(), "a|bc");
    Desk.due("not the STEM", d.x.word(2, 0), -1);
    d.run("'");
    Desk.due("of BLAME 1", d.x.word(0, 0), -1);
  }

  static void counts() {
    Desk.hold("0 TOOLS, 1 RECORDS, 2 bytes of the TAPE, 3 of the PAGE, 4 to 6 rows of the sorts 0 to 2, 7 ENDS, 8 NEAR ones; NONE for others");
    Desk d = new Desk().tool(0, "tool ab end;").tool(1, "tool ac end;").tool(2, "tool xyz opt f flag; end;");
    d.runs("ab", 0);
    d.runs("ac", 1);
    d.runs("xyz", 2);
    d.runs("xyz --f", 3);
    d.puts(0, "a=b", 1);
    for (int i = 0; i < 5; i++) d.puts(1, "s" + i + "=b", 1);
    for (int i = 0; i < 7; i++) d.puts(2, "q" + i + "=b", 1);
    d.x.print(2);
    d.run("aa");
    int[] want = {3, 4, 0, 3, 1, 5, 7, 0, 2};
    for (int what = 0; what < want.length; what++) Desk.due("count(" + what + ")", d.x.count(what), want[what]);
    d.ends("");
    Desk.due("ENDS", d.x.count(7), 10);
    Desk.due("NEAR", d.x.count(8), 0);
    d.feed("x");
    Desk.due("TAPE", d.x.count(2), 20);
    int[] others = {-1, 9, 10, Integer.MAX_VALUE, Integer.MIN_VALUE};
    for (int what : others) Desk.due("count(" + what + ")", d.x.count(what), -1);
  }

  static void endsThrows() {
    Desk.hold("ends(): how many, or its BLAME less 20 (there are none then). IllegalArgumentException as run()");
    Desk d = new Desk().tool(0, "tool a end;");
    Desk.thrown("ends(1)", () -> d.x.ends(1), 1);
    d.feed(Desk.times(" ", 420));
    int[] lengths = {-1, 401, 402, 420, 421, Integer.MAX_VALUE, Integer.MIN_VALUE};
    for (int n : lengths) Desk.thrown("ends(" + n + ")", () -> d.x.ends(n), 1);
    Desk.due("the TAPE stays", d.x.count(2), 420);
    Desk.due("ends(400)", d.x.ends(400), 1);
    Desk.due("TAPE", d.x.count(2), 0);
    d.feed(Desk.times(" ", 400));
    Desk.due("ends(399)", d.x.ends(399), 1);
    d.feed("a b c");
    Desk.due("n alone counts", d.x.ends(1), 1);
    d.feed("a b c");
    Desk.due("a BLAME", d.x.ends(4), -10);
    Desk.due("ENDS", d.x.count(7), 0);
    for (int i = 0; i < 40; i++) d.run("a");
    d.endsAre("", "a");
    Desk.due("RECORDS", d.x.count(1), 40);
  }

  static void throwsLeaveAll() {
    Desk.hold("a call that throws changes nothing");
    Desk d = new Desk().tool(0, "tool a opt x int; end;");
    d.runs("a --x=5", 0);
    d.x.print(0);
    d.puts(0, "e=f", 1);
    d.describe("tool b bad");
    d.run("a --y");
    d.feed("a");
    Desk.Call[] calls = {() -> d.x.describe(21), () -> d.x.put(3, 1), () -> d.x.put(0, 21), () -> d.x.clear(3), () -> d.x.run(21), () -> d.x.ends(21),
      () -> d.x.show(2, 0), () -> d.x.record(0, 3)};
    for (Desk.Call call : calls) Desk.thrown("a wrong call", call, 1);
    Desk.Call[] others = {() -> d.x.record(1, 0), () -> d.x.source(1, 0), () -> d.x.value(1, 0), () -> d.x.item(1, 0, 0), () -> d.x.same(0, 1),
      () -> d.x.print(1)};
    for (Desk.Call call : others) Desk.thrown("no RECORD", call, 3);
    int[] want = {1, 1, 20, 7, 1, 0, 0, 0, 1};
    for (int what = 0; what < want.length; what++) Desk.due("count(" + what + ")", d.x.count(what), want[what]);
    Desk.due("blames", d.blames(), "6 1 2 -1 -1 2");
    Desk.due("WORDS", d.words(), "a|--y");
    Desk.due("fault()", d.x.fault(), 7);
    Desk.due("PAGE", d.page(), "a --x=5");
  }
}
