/** Promises 11 to 17: RECORDS, what they answer, SAME and PRINTED. */
public final class RecordTest {
  static final String DOCK = "tool dock opt txt text; opt num int; opt lst list; opt who one(ann,ben); opt flg flag; opt cnt count short \"c\"; "
      + "opt dat day; rest r text; sub in opt deep text; rest q int; end; sub out end; end;";

  public static void main(String[] args) {
    answers();
    items();
    same();
    printed();
    longPage();
    makesAgain();
    Desk.end();
  }

  static void answers() {
    Desk d = new Desk();
    d.tool(0, "tool other end;");
    d.tool(1, DOCK);
    d.runs("other", 0);
    d.runs("dock in 5 6", 1);
    d.runs("dock a", 2);
    Desk.due("tool", d.x.record(0, 0), 0);
    Desk.due("tool", d.x.record(1, 0), 1);
    Desk.due("subs", d.x.record(0, 1), 0);
    Desk.due("subs", d.x.record(1, 1), 1);
    Desk.due("rest", d.x.record(1, 2), 2);
    Desk.due("rest", d.x.record(2, 2), 1);
    Desk.due("not of the path", d.x.source(2, 7), -1);
    Desk.due("of the path", d.x.source(1, 7), 4);
    Desk.due("no option at all", d.x.source(0, 0), -1);
    Desk.due("count", d.x.count(1), 3);
  }

  static void items() {
    Desk d = new Desk().tool(0, DOCK);
    d.runs("dock --txt='a b' --lst 5,-6 --num 7 --who ben --dat 1970-01-09 ab ''", 0);
    Desk.due("byte 0", d.x.item(0, 0, 0), 97);
    Desk.due("byte 1", d.x.item(0, 0, 1), 32);
    Desk.due("byte 3", d.x.item(0, 0, 3), 0);
    Desk.due("byte -1", d.x.item(0, 0, -1), 0);
    Desk.due("item 0", d.x.item(0, 2, 0), 5);
    Desk.due("item 1", d.x.item(0, 2, 1), -6);
    Desk.due("item 2", d.x.item(0, 2, 2), 0);
    Desk.due("item 10", d.x.item(0, 2, 10), 0);
    Desk.due("of an int", d.x.item(0, 1, 0), 0);
    Desk.due("of one", d.x.item(0, 3, 0), 0);
    Desk.due("of a day", d.x.item(0, 6, 0), 0);
    Desk.due("of another place", d.x.item(0, 7, 0), 0);
    Desk.due("of no option", d.x.item(0, 99, 0), 0);
    Desk.due("of no option", d.x.item(0, -2, 0), 0);
    Desk.due("rest word 0", d.x.item(0, -1, 1), 98);
    Desk.due("rest word 0, behind", d.x.item(0, -1, 2), 0);
    Desk.due("rest word 1", d.x.item(0, -1, 100), 0);
    Desk.due("rest word 2", d.x.item(0, -1, 200), 0);
    Desk.due("rest of no word", d.x.item(0, -1, -1), 0);
    Desk.due("rest of no word", d.x.item(0, -1, Integer.MIN_VALUE), 0);
    Desk.due("rest of no word", d.x.item(0, -1, Integer.MAX_VALUE), 0);
    Desk.due("values", d.x.value(0, 0) + " " + d.x.value(0, 1) + " " + d.x.value(0, 2) + " " + d.x.value(0, 3) + " " + d.x.value(0, 6), "3 7 2 1 8");
    d.runs("dock in 12 -3", 1);
    Desk.due("int words, too", d.x.item(1, -1, 1), '2');
    Desk.due("int words, too", d.x.item(1, -1, 100), '-');
  }

  static void pair(String one, String other, boolean want) {
    Desk d = new Desk().tool(0, DOCK).tool(1, DOCK.replace("tool dock", "tool pier"));
    d.runs(one, 0);
    d.runs(other, 1);
    Desk.due(one + " as " + other, d.x.same(0, 1) ? 1 : 0, want ? 1 : 0);
    Desk.due(other + " as " + one, d.x.same(1, 0) ? 1 : 0, want ? 1 : 0);
    Desk.due(one + " as itself", d.x.same(0, 0) ? 1 : 0, 1);
  }

  static void same() {
    pair("dock", "dock", true);
    pair("dock", "pier", false);
    pair("dock in", "dock", false);
    pair("dock in", "dock out", false);
    pair("dock --txt=", "dock", true);
    pair("dock --txt=a", "dock --txt=b", false);
    pair("dock --txt=ab", "dock --txt=a", false);
    pair("dock --num=0 --who=ann --no-flg --dat=1970-01-01", "dock", true);
    pair("dock --num=1", "dock", false);
    pair("dock --num=01", "dock --num 1", true);
    pair("dock --lst=1,2", "dock --lst 1 --lst=02", true);
    pair("dock --lst=1,2", "dock --lst=2,1", false);
    pair("dock --lst=1,2", "dock --lst=1", false);
    pair("dock --flg", "dock", false);
    pair("dock -cc", "dock -c --cnt", true);
    pair("dock -cc", "dock -c", false);
    pair("dock a b", "dock -- a 'b'", true);
    pair("dock a b", "dock b a", false);
    pair("dock a b", "dock a", false);
    pair("dock in 5", "dock in 05", false);
    Desk d = new Desk().tool(0, DOCK);
    d.runs("dock --num=5", 0);
    d.puts(1, "dock.num=5", 1);
    d.runs("dock", 1);
    Desk.due("sources do not count", d.x.same(0, 1) ? 1 : 0, 1);
  }

  static void prints(String line, String want) {
    Desk d = new Desk().tool(0, DOCK);
    d.runs(line, 0);
    Desk.due("print of " + line, d.print(0), want);
  }

  static void printed() {
    prints("dock", "dock");
    prints("dock in", "dock in");
    prints("dock --", "dock");
    prints("dock in 5 -- 6", "dock in -- 5 6");
    prints("dock x -ccc --no-flg --num -0 --txt y", "dock --txt=y --num=0 --no-flg --cnt --cnt --cnt -- x");
    prints("dock --flg --num=-2147483648", "dock --num=-2147483648 --flg");
    prints("dock --txt=", "dock --txt=''");
    prints("dock --txt \"it's\"", "dock --txt='it'\\''s'");
    prints("dock \"'\" ''", "dock -- ''\\''' ''");
    prints("dock 'aZ09-_.,/:+'", "dock -- aZ09-_.,/:+");
    String odd = " !\"#$%&()*;<=>?@[\\]^`{|}~\n";
    for (int i = 0; i < odd.length(); i++) prints("dock 'a" + odd.charAt(i) + "'", "dock -- 'a" + odd.charAt(i) + "'");
    prints("dock in --deep=q --lst=1 --lst 2,-3 --who=ben", "dock in --lst=1,2,-3 --who=ben --deep=q");
    Desk d = new Desk().tool(0, DOCK);
    d.runs("dock a", 0);
    Desk.due("print", d.print(0), "dock -- a");
    Desk.due("octet(8)", d.x.octet(8), 'a');
    Desk.due("octet(9)", d.x.octet(9), -1);
    Desk.due("octet(-1)", d.x.octet(-1), -1);
    d.ends("doc");
    Desk.due("the page stays", d.page(), "dock -- a");
    Desk.due("show(0, 1)", d.x.show(0, 1), -1);
    Desk.due("show(0, -1)", d.x.show(0, -1), -1);
    Desk.due("the page stays", d.page(), "dock -- a");
    Desk.due("show(0, 0)", d.x.show(0, 0), 4);
    Desk.due("the page is new", d.page(), "dock");
  }

  /** As many counts as ALIASES can bring together. */
  static void longPage() {
    Desk d = new Desk().tool(0, "tool a opt abcdefghij count short \"v\"; end;");
    for (int i = 0; i < 19; i++) d.puts(2, "b" + i + "=b" + (i + 1) + " -" + Desk.times("v", 39), 1);
    d.puts(2, "b19=a", 1);
    StringBuilder line = new StringBuilder("b0");
    for (int i = 0; i < 9; i++) line.append(" -").append(Desk.times("v", 39));
    d.runs(line.toString(), 0);
    int many = 39 * 28;
    Desk.due("count", d.x.value(0, 0), many);
    Desk.due("page", d.x.print(0), 1 + 13 * many);
    Desk.due("its last byte", d.x.octet(13 * many), 'j');
    Desk.due("behind", d.x.octet(13 * many + 1), -1);
  }

  /** What is printed makes the same RECORD again, with all rows gone. */
  static void makesAgain() {
    String[] lines = {"dock", "dock in 1 -2", "dock --txt=\"a'b c\" \\' -- -- '--num' x", "dock -ccc --no-flg --lst=1,2 --lst 3 --who ann"};
    Desk d = new Desk().tool(0, DOCK);
    d.puts(1, "dock.dat=2000-02-29", 1);
    d.puts(1, "dock.in.deep=' \\ #", 1);
    for (String line : lines) {
      int r = d.run(line);
      String text = d.print(r);
      Desk.due("again " + text, d.run(text), r + 1);
      Desk.due("same as " + text, d.x.same(r, r + 1) ? 1 : 0, 1);
      Desk.due("printed again", d.print(r + 1), text);
    }
  }
}
