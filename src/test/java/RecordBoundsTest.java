/** The bounds that ==== 4 of the document and promises 11 to 17 name, sentence by sentence: RECORDS and how they are PRINTED. */
public final class RecordBoundsTest {
  static final String TOOL = "tool a opt flg flag env f; opt cnt count; opt num int default 7; opt txt text; opt dat day; opt lst list; "
      + "opt who one(ann,ben); rest r text; sub s opt own text; rest q int; end; sub t end; end;";

  public static void main(String[] args) {
    atMostForty();
    onlyWithoutBlame();
    sourceNumbers();
    valuesOfNone();
    record();
    source();
    value();
    items();
    restBytes();
    samePlaces();
    sameValues();
    sameRest();
    noSuchRecord();
    path();
    onlyTold();
    flagsAndCounts();
    others();
    rest();
    quotes();
    octets();
    Desk.end();
  }

  static Desk desk() {
    return new Desk().tool(0, TOOL);
  }

  static void atMostForty() {
    Desk.hold("RECORDS are made of LINES without BLAME, at most 40");
    Desk d = desk();
    for (int i = 0; i < 40; i++) d.runs("a --num=" + i, i);
    Desk.due("RECORDS", d.x.count(1), 40);
    d.feed("a");
    Desk.thrown("a 41st", () -> d.x.run(1), 2);
    Desk.thrown("one with a BLAME", () -> d.x.run(0), 2);
    Desk.thrown("a wrong n", () -> d.x.run(21), 1);
    Desk.due("RECORDS", d.x.count(1), 40);
    for (int i = 0; i < 40; i++) Desk.due("of RECORD " + i, d.x.value(i, 2), i);
  }

  static void onlyWithoutBlame() {
    Desk.hold("of LINES without BLAME");
    Desk d = desk();
    d.blamed("b", "5 0 0 -1 -1 1");
    d.runs("a --num=1 x", 0);
    d.blamed("a --num=2 --lst=x y", "11 2 0 5 -1 4");
    d.ends("a --num=3 --flg z ");
    Desk.due("RECORDS", d.x.count(1), 1);
    Desk.due("the first stays", d.print(0), "a --num=1 -- x");
    d.runs("a", 1);
    Desk.due("nothing of the others comes", d.print(1), "a");
    Desk.due("default", d.x.value(1, 2), 7);
    Desk.due("list", d.x.value(1, 5), 0);
    d.tool(1, "tool b opt num int; end;");
    d.x.clear(0);
    Desk.due("the first stays", d.print(0), "a --num=1 -- x");
  }

  static void sourceNumbers() {
    Desk.hold("its SOURCE (0 LINE, 1 ENVIRONMENT, 2 SETTINGS, 3 default, 4 none)");
    Desk d = desk();
    d.puts(0, "f=true", 1);
    d.puts(1, "a.cnt=3", 1);
    d.runs("a --txt=", 0);
    int[] want = {1, 2, 3, 0, 4, 4, 4, -1};
    for (int i = 0; i < want.length; i++) Desk.due("source of " + i, d.x.source(0, i), want[i]);
  }

  static void valuesOfNone() {
    Desk.hold("and VALUE (of none: 0, an empty TEXT, list)");
    Desk d = new Desk().tool(0, "tool a opt flg flag; opt cnt count; opt num int min 3; opt txt text; opt dat day; opt lst list min 3; opt who one(p); end;");
    d.runs("a", 0);
    for (int i = 0; i < 7; i++) {
      Desk.due("source of " + i, d.x.source(0, i), 4);
      Desk.due("value of " + i, d.x.value(0, i), 0);
      Desk.due("item 0 of " + i, d.x.item(0, i, 0), 0);
    }
  }

  static void record() {
    Desk.hold("0 its TOOL, 1 how many SUBS its PATH has, 2 REST WORDS; IllegalArgumentException: another what");
    Desk d = desk();
    d.tool(1, "tool b sub s sub s sub s rest r text; end; end; end; end;");
    d.runs("b s s s" + Desk.times(" x", 56), 0);
    d.runs("a", 1);
    Desk.due("TOOL", d.x.record(0, 0), 1);
    Desk.due("SUBS", d.x.record(0, 1), 3);
    Desk.due("REST WORDS", d.x.record(0, 2), 56);
    for (int what = 0; what < 3; what++) Desk.due("of a", d.x.record(1, what), 0);
    int[] others = {-1, 3, Integer.MAX_VALUE, Integer.MIN_VALUE};
    for (int what : others) Desk.thrown("what " + what, () -> d.x.record(0, what), 1);
  }

  static void source() {
    Desk.hold("NONE if it is not of its PATH");
    Desk d = desk();
    d.runs("a", 0);
    d.runs("a s", 1);
    d.runs("a t", 2);
    Desk.due("of a SUB", d.x.source(0, 7), -1);
    Desk.due("of this SUB", d.x.source(1, 7), 4);
    Desk.due("of another SUB", d.x.source(2, 7), -1);
    int[] none = {-1, -2, 8, 39, 40, 41, Integer.MAX_VALUE, Integer.MIN_VALUE};
    for (int option : none) Desk.due("source of " + option, d.x.source(1, option), -1);
    for (int option : none) Desk.due("value of " + option, d.x.value(1, option), 0);
    for (int option : none) {
      if (option != -1) Desk.due("item of " + option, d.x.item(1, option, 0), 0);
    }
  }

  static void value() {
    Desk.hold("flag 0, 1; count, int; day; one: which NAME; text: how many bytes; list: how many (0 of one that is not of the PATH)");
    Desk d = desk();
    d.runs("a --flg -- ", 0);
    Desk.due("flag", d.x.value(0, 0), 1);
    d.runs("a --no-flg --cnt --cnt --num=-5 --txt=abc --dat=1970-01-31 --lst=4,5,6,7 --who=ben", 1);
    int[] want = {0, 2, -5, 3, 30, 4, 1, 0};
    for (int i = 0; i < want.length; i++) Desk.due("value of " + i, d.x.value(1, i), want[i]);
    d.runs("a --who=ann --txt=", 2);
    Desk.due("the first NAME", d.x.value(2, 6), 0);
    Desk.due("an empty text", d.x.value(2, 3), 0);
    d.runs("a s --own=abcd", 3);
    Desk.due("of the SUB", d.x.value(3, 7), 4);
  }

  static void items() {
    Desk.hold("Item k of a list, byte k of a text. 0 without one");
    Desk d = desk();
    d.runs("a --lst=1,2,3,4,5,6,7,8,9,-10 --num=5 --cnt --flg --who=ben --dat=2000-01-01 --txt " + Desk.times("y", 39) + "z", 0);
    Desk.due("the last item", d.x.item(0, 5, 9), -10);
    Desk.due("behind it", d.x.item(0, 5, 10), 0);
    Desk.due("the first item", d.x.item(0, 5, 0), 1);
    Desk.due("ahead of it", d.x.item(0, 5, -1), 0);
    Desk.due("the last byte", d.x.item(0, 3, 39), 'z');
    Desk.due("behind it", d.x.item(0, 3, 40), 0);
    Desk.due("ahead of the first", d.x.item(0, 3, -1), 0);
    int[] far = {100, Integer.MAX_VALUE, Integer.MIN_VALUE};
    for (int k : far) {
      Desk.due("item " + k, d.x.item(0, 5, k), 0);
      Desk.due("byte " + k, d.x.item(0, 3, k), 0);
    }
    int[] others = {0, 1, 2, 4, 6};
    for (int option : others) {
      for (int k = 0; k < 3; k++) Desk.due("item of option " + option, d.x.item(0, option, k), 0);
    }
    d.runs("a --lst=8", 1);
    Desk.due("item 1 of a list of one", d.x.item(1, 5, 1), 0);
    d.puts(1, "a.txt=" + Desk.times("x", 59) + "y", 1);
    d.runs("a", 2);
    Desk.due("the last byte of 60", d.x.item(2, 3, 59), 'y');
    Desk.due("behind it", d.x.item(2, 3, 60), 0);
    Desk e = new Desk().tool(0, "tool a opt t text default \"12345678901z\"; end;");
    e.runs("a", 0);
    Desk.due("bytes of a default", e.x.value(0, 0), 12);
    Desk.due("its last byte", e.x.item(0, 0, 11), 'z');
    Desk.due("behind it", e.x.item(0, 0, 12), 0);
  }

  static void restBytes() {
    Desk.hold("of OPTION NONE: byte k modulo 100 of REST WORD k / 100 (of int words, too)");
    Desk d = desk();
    d.runs("a " + Desk.times("b", 39) + "c '' de", 0);
    Desk.due("the first byte", d.x.item(0, -1, 0), 'b');
    Desk.due("the last byte", d.x.item(0, -1, 39), 'c');
    Desk.due("behind it", d.x.item(0, -1, 40), 0);
    Desk.due("byte 99", d.x.item(0, -1, 99), 0);
    Desk.due("of an empty one", d.x.item(0, -1, 100), 0);
    Desk.due("of the last one", d.x.item(0, -1, 201), 'e');
    Desk.due("of the last one", d.x.item(0, -1, 202), 0);
    Desk.due("behind the last one", d.x.item(0, -1, 300), 0);
    int[] none = {-1, -100, -101, Integer.MIN_VALUE, Integer.MAX_VALUE};
    for (int k : none) Desk.due("k " + k, d.x.item(0, -1, k), 0);
    d.runs("a" + Desk.times(" x", 58) + " yz", 1);
    Desk.due("of the 59th", d.x.item(1, -1, 5801), 'z');
    Desk.due("of a 60th", d.x.item(1, -1, 5900), 0);
    d.runs("a s -05 6", 2);
    Desk.due("of int words, as they are", d.x.item(2, -1, 0), '-');
    Desk.due("of int words, as they are", d.x.item(2, -1, 1), '0');
    Desk.due("of int words, as they are", d.x.item(2, -1, 100), '6');
    d.runs("a", 3);
    Desk.due("without REST WORDS", d.x.item(3, -1, 0), 0);
  }

  static void pair(String one, String other, boolean want) {
    Desk d = desk();
    d.tool(1, TOOL.replace("tool a", "tool b"));
    d.runs(one, 0);
    d.runs(other, 1);
    Desk.due(one + " as " + other, d.x.same(0, 1) ? 1 : 0, want ? 1 : 0);
    Desk.due(other + " as " + one, d.x.same(1, 0) ? 1 : 0, want ? 1 : 0);
    Desk.due(one + " as itself", d.x.same(0, 0) ? 1 : 0, 1);
  }

  static void samePlaces() {
    Desk.hold("Two are the SAME if PLACE is");
    pair("a", "a", true);
    pair("a", "b", false);
    pair("a", "a t", false);
    pair("a s", "a t", false);
    pair("a s", "b s", false);
    pair("a s", "a 's'", true);
  }

  static void sameValues() {
    Desk.hold("Two are the SAME if VALUES are");
    pair("a --flg", "a", false);
    pair("a --no-flg", "a", true);
    pair("a --cnt --cnt", "a --cnt", false);
    pair("a --cnt", "a", false);
    pair("a --num=7", "a", true);
    pair("a --num=8", "a", false);
    pair("a --num=-0", "a --num 0", true);
    pair("a --txt=", "a", true);
    pair("a --txt=x", "a", false);
    pair("a --txt=ab", "a --txt=ac", false);
    pair("a --txt=ab", "a --txt=abc", false);
    pair("a --dat=1970-01-01", "a", true);
    pair("a --dat=1970-01-02", "a", false);
    pair("a --who=ann", "a", true);
    pair("a --who=ben", "a", false);
    pair("a --lst=0", "a", false);
    pair("a --lst=1,2,3", "a --lst=1 --lst=2,3", true);
    pair("a --lst=1,2,3", "a --lst=1,2,4", false);
    pair("a --lst=1,2,3", "a --lst=1,2", false);
    pair("a --lst=1,2,3,4,5,6,7,8,9,10", "a --lst=1,2,3,4,5,6,7,8,9,11", false);
    pair("a s --own=x", "a s --own=y", false);
    pair("a s --own=x", "a s --own=x", true);
  }

  static void sameRest() {
    Desk.hold("Two are the SAME if REST WORDS are");
    pair("a x y", "a -- x y", true);
    pair("a x y", "a x", false);
    pair("a x y", "a y x", false);
    pair("a x y", "a xy", false);
    pair("a ''", "a", false);
    pair("a s 5", "a s 05", false);
    pair("a" + Desk.times(" x", 58) + " y", "a" + Desk.times(" x", 58) + " z", false);
    pair("a" + Desk.times(" x", 59), "a" + Desk.times(" x", 59), true);
  }

  static void noSuchRecord() {
    Desk.hold("NoSuchElementException: no such RECORD");
    Desk d = desk();
    int[] far = {-1, 0, 1, 39, 40, 41, Integer.MAX_VALUE, Integer.MIN_VALUE};
    for (int r : far) noSuch(d, r);
    d.runs("a", 0);
    for (int r : far) {
      if (r != 0) noSuch(d, r);
    }
    d.runs("a", 1);
    noSuch(d, 2);
    Desk.thrown("same(0, 1)", () -> d.x.same(0, 1), 0);
    Desk.thrown("same(0, 2)", () -> d.x.same(0, 2), 3);
    Desk.thrown("same(2, 0)", () -> d.x.same(2, 0), 3);
    Desk.thrown("same(-1, 0)", () -> d.x.same(-1, 0), 3);
    Desk.thrown("same(0, -1)", () -> d.x.same(0, -1), 3);
  }

  static void noSuch(Desk d, int r) {
    for (int what = -1; what <= 3; what++) {
      int asked = what;
      Desk.thrown("record(" + r + ", " + what + ")", () -> d.x.record(r, asked), 3);
      Desk.thrown("source(" + r + ", " + what + ")", () -> d.x.source(r, asked), 3);
      Desk.thrown("value(" + r + ", " + what + ")", () -> d.x.value(r, asked), 3);
      Desk.thrown("item(" + r + ", " + what + ", 0)", () -> d.x.item(r, asked, 0), 3);
      Desk.thrown("item(" + r + ", " + what + ", -1)", () -> d.x.item(r, asked, -1), 3);
    }
    Desk.thrown("print(" + r + ")", () -> d.x.print(r), 3);
    Desk.thrown("same(" + r + ", " + r + ")", () -> d.x.same(r, r), 3);
  }

  static void prints(String line, String want) {
    Desk d = desk();
    int r = d.run(line);
    Desk.due("run " + line, r, 0);
    String text = d.print(r);
    Desk.due("print of " + line, text, want);
    Desk.due("run again " + text, d.run(text), 1);
    Desk.due("the SAME again " + text, d.x.same(0, 1) ? 1 : 0, 1);
  }

  static void path() {
    Desk.hold("the NAMES of its PATH");
    prints("a", "a");
    prints("a s", "a s");
    Desk d = new Desk().tool(0, "tool a sub bb sub ccc sub dddd opt x int; end; end; end; end;");
    d.runs("a bb ccc dddd --x=1", 0);
    Desk.due("print", d.print(0), "a bb ccc dddd --x=1");
  }

  static void onlyTold() {
    Desk.hold("then each OPTION that is TOLD, in order");
    prints("a --num=7", "a --num=7");
    prints("a --who=ben --lst=1 --dat=2000-01-01 --txt=x --num=1 --cnt --flg", "a --flg --cnt --num=1 --txt=x --dat=2000-01-01 --lst=1 --who=ben");
    prints("a s --own=x --flg 5", "a s --flg --own=x -- 5");
    Desk d = desk();
    d.puts(0, "f=false", 1);
    d.puts(1, "a.cnt=20", 1);
    d.puts(1, "a.lst=1,2", 1);
    d.runs("a", 0);
    Desk.due("by ENVIRONMENT and SETTINGS", d.print(0), "a --no-flg" + Desk.times(" --cnt", 20) + " --lst=1,2");
    d.puts(1, "a.txt=it's", 1);
    d.runs("a", 1);
    Desk.due("by ENVIRONMENT and SETTINGS", d.print(1), "a --no-flg" + Desk.times(" --cnt", 20) + " --txt='it'\\''s' --lst=1,2");
  }

  static void flagsAndCounts() {
    Desk.hold("a flag --x or --no-x, a count --x as often as it says");
    prints("a --flg", "a --flg");
    prints("a --no-flg", "a --no-flg");
    prints("a --flg --flg", "a --flg");
    prints("a --cnt", "a --cnt");
    prints("a --cnt --flg --cnt", "a --flg --cnt --cnt");
    prints("a" + Desk.times(" --cnt", 59), "a" + Desk.times(" --cnt", 59));
  }

  static void others() {
    Desk.hold("others --x=VALUE (of lists , between)");
    prints("a --num 007", "a --num=7");
    prints("a --num -0", "a --num=0");
    prints("a --num=-2147483648", "a --num=-2147483648");
    prints("a --num=2147483647", "a --num=2147483647");
    prints("a --lst=1", "a --lst=1");
    prints("a --lst 01,-02 --lst=3", "a --lst=1,-2,3");
    prints("a --dat 1600-01-01", "a --dat=1600-01-01");
    prints("a --who ben", "a --who=ben");
  }

  static void rest() {
    Desk.hold("then, if there are REST WORDS, -- and these; one blank between");
    prints("a --", "a");
    prints("a x", "a -- x");
    prints("a x --flg -- y", "a --flg -- x y");
    prints("a -- --", "a -- --");
    prints("a s 05 -- -6", "a s -- 05 -6");
    prints("a '' ''", "a -- '' ''");
  }

  static void quotes() {
    Desk.hold("A VALUE or REST WORD that is empty, or has other bytes than letters, digits and - _ . , / : + is printed between ' (a ' in it as '\\'')");
    prints("a --txt=", "a --txt=''");
    prints("a ''", "a -- ''");
    for (int b = 32; b < 127; b++) quote((char) b);
    quote('\n');
    prints("a \"it's\"", "a -- 'it'\\''s'");
    prints("a \"'\"", "a -- ''\\'''");
    prints("a \"''\"", "a -- ''\\'''\\'''");
    prints("a --txt=\"a'b c\"", "a --txt='a'\\''b c'");
    prints("a 'x y'", "a -- 'x y'");
    prints("a x\\ ", "a -- 'x '");
  }

  static void quote(char sign) {
    boolean plain = Character.isLetterOrDigit(sign) || "-_.,/:+".indexOf(sign) >= 0;
    String shown = plain ? "p" + sign + "q" : sign == '\'' ? "'p'\\''q'" : "'p" + sign + "q'";
    prints("a p\\" + sign + "q", "a -- " + shown);
    prints("a --txt=p\\" + sign + "q", "a --txt=" + shown);
    String alone = plain ? "" + sign : sign == '\'' ? "''\\'''" : "'" + sign + "'";
    prints("a --txt \\" + sign, "a --txt=" + alone);
  }

  static void octets() {
    Desk.hold("Byte k of the PAGE; NONE");
    Desk d = desk();
    Desk.due("of an empty PAGE", d.x.octet(0), -1);
    d.runs("a s", 0);
    Desk.due("print", d.x.print(0), 3);
    int[] places = {-1, 0, 1, 2, 3, 4, Integer.MAX_VALUE, Integer.MIN_VALUE};
    int[] want = {-1, 'a', ' ', 's', -1, -1, -1, -1};
    for (int i = 0; i < places.length; i++) Desk.due("octet(" + places[i] + ")", d.x.octet(places[i]), want[i]);
    Desk.due("bytes of the PAGE", d.x.count(3), 3);
    d.runs("a", 1);
    Desk.due("run() leaves the PAGE", d.page(), "a s");
    Desk.due("print", d.x.print(1), 1);
    Desk.due("a shorter PAGE", d.page(), "a");
    Desk.thrown("print(2)", () -> d.x.print(2), 3);
    Desk.due("a throw leaves the PAGE", d.page(), "a");
  }
}
