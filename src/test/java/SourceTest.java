/** Promises 7, 8, 12, 13: SOURCES and BLAMES 12 to 17. */
public final class SourceTest {
  static final String GATE = "tool gate opt num int min 1 max 9 default 5 env num-e; opt flg flag env flg-e; opt cnt count; "
      + "opt txt text default \"a b\" env txt-e; opt dat day default \"1970-01-02\"; opt who one(ann,ben,cid) default ben; "
      + "opt lst list min 0 max 9; sub in opt num2 int env num-e; sub deep opt num3 int; end; end; end;";

  public static void main(String[] args) {
    defaults();
    order();
    badRows();
    blames();
    links();
    firstOne();
    Desk.end();
  }

  static String all(Desk d, int r, int options) {
    StringBuilder text = new StringBuilder();
    for (int i = 0; i < options; i++) text.append(i > 0 ? " " : "").append(d.x.source(r, i)).append(':').append(d.x.value(r, i));
    return text.toString();
  }

  static void defaults() {
    Desk d = new Desk().tool(0, GATE);
    d.runs("gate", 0);
    Desk.due("all", all(d, 0, 9), "3:5 4:0 4:0 3:3 3:1 3:1 4:0 -1:0 -1:0");
    Desk.due("text of a default", d.x.item(0, 3, 1), 32);
    Desk.due("print", d.print(0), "gate");
    Desk.due("source(0, -1)", d.x.source(0, -1), -1);
    Desk.due("source(0, 40)", d.x.source(0, 40), -1);
    Desk.due("value(0, -1)", d.x.value(0, -1), 0);
    Desk.due("value(0, 9999)", d.x.value(0, 9999), 0);
    d.runs("gate in deep", 1);
    Desk.due("all", all(d, 1, 9), "3:5 4:0 4:0 3:3 3:1 3:1 4:0 4:0 4:0");
  }

  static void order() {
    Desk d = new Desk().tool(0, GATE);
    d.puts(0, "num-e=7", 1);
    d.puts(0, "flg-e=true", 1);
    d.puts(0, "txt-e=", 1);
    d.puts(1, "gate.num=8", 1);
    d.puts(1, "gate.flg=false", 1);
    d.puts(1, "gate.cnt=03", 1);
    d.puts(1, "gate.txt=set", 1);
    d.puts(1, "gate.dat=1970-01-03", 1);
    d.puts(1, "gate.who=cid", 1);
    d.puts(1, "gate.lst=1,2,3", 1);
    d.puts(1, "gate.in.num2=44", 1);
    d.puts(1, "gate.in.deep.num3=-44", 1);
    d.puts(1, "gate.num3=x", 1);
    d.puts(1, "num3=x", 1);
    d.runs("gate in deep", 0);
    Desk.due("all", all(d, 0, 9), "1:7 1:1 2:3 1:0 2:2 2:2 2:3 1:7 2:-44");
    Desk.due("print", d.print(0), "gate in deep --num=7 --flg --cnt --cnt --cnt --txt='' --dat=1970-01-03 --who=cid --lst=1,2,3 --num2=7 --num3=-44");
    d.runs("gate --num=1 --no-flg --cnt --txt x --dat 1970-01-01 --who ann --lst=4", 1);
    Desk.due("all", all(d, 1, 9), "0:1 0:0 0:1 0:1 0:0 0:0 0:1 -1:0 -1:0");
    Desk.due("a list is the line's alone", d.x.item(1, 6, 0), 4);
    Desk.due("clear(0)", d.x.clear(0), 3);
    d.runs("gate in", 2);
    Desk.due("all", all(d, 2, 9), "2:8 2:0 2:3 2:3 2:2 2:2 2:3 2:44 -1:0");
    Desk.due("print", d.print(2), "gate in --num=8 --no-flg --cnt --cnt --cnt --txt=set --dat=1970-01-03 --who=cid --lst=1,2,3 --num2=44");
    Desk.due("records stay", all(d, 0, 9), "1:7 1:1 2:3 1:0 2:2 2:2 2:3 1:7 2:-44");
  }

  static void badRow(String row, int sort, int option, boolean fits) {
    Desk d = new Desk().tool(0, GATE);
    d.puts(sort, row, 1);
    if (fits) d.runs("gate", 0);
    else d.blamed("gate", "12 -1 0 " + option + " " + (sort + 1) + " 1");
  }

  static void badRows() {
    badRow("num-e=x", 0, 0, false);
    badRow("num-e=", 0, 0, false);
    badRow("gate.num=5 ", 1, 0, false);
    badRow("flg-e=1", 0, 1, false);
    badRow("flg-e=True", 0, 1, false);
    badRow("gate.flg=", 1, 1, false);
    badRow("gate.flg=truefalse", 1, 1, false);
    badRow("gate.cnt=0", 1, 2, false);
    badRow("gate.cnt=21", 1, 2, false);
    badRow("gate.cnt=20", 1, 2, true);
    badRow("gate.cnt=01", 1, 2, true);
    badRow("gate.cnt=001", 1, 2, false);
    badRow("gate.cnt=-1", 1, 2, false);
    badRow("gate.cnt=", 1, 2, false);
    badRow("gate.txt=' \"", 1, 3, true);
    badRow("gate.dat=1970-02-30", 1, 4, false);
    badRow("gate.who=dan", 1, 5, false);
    badRow("gate.lst=", 1, 6, false);
    badRow("gate.lst=1,2,3,4,5,6,7,8,9,0", 1, 6, true);
    badRow("gate.lst=1,2,3,4,5,6,7,8,9,0,1", 1, 6, false);
    badRow("gate.lst=1, 2", 1, 6, false);
    Desk d = new Desk().tool(0, GATE);
    d.puts(0, "num-e=x", 1);
    d.runs("gate --num 5", 0);
    d.blamed("gate --num 5 in", "10 3 0 -1 -1 4");
    d.blamed("gate in --num 5", "12 -1 0 7 1 4");
    d.puts(1, "gate.num=4", 1);
    d.blamed("gate", "12 -1 0 0 1 1");
  }

  static void blames() {
    Desk d = new Desk().tool(0, GATE);
    d.blamed("gate --num=0", "14 -1 0 0 -1 2");
    d.blamed("gate --num=10", "14 -1 0 0 -1 2");
    d.blamed("gate --lst=1,2 --lst=10", "14 -1 0 6 -1 3");
    d.blamed("gate --lst=-1,2", "14 -1 0 6 -1 2");
    d.puts(0, "num-e=10", 1);
    d.blamed("gate", "14 -1 0 0 -1 1");
    Desk e = new Desk();
    e.tool(0, "tool a opt x int need min 5; opt y flag need; rest r text need; sub s opt z list need; rest q int; end; end;");
    e.blamed("a", "13 -1 0 0 -1 1");
    e.blamed("a --x=5", "13 -1 0 1 -1 2");
    e.blamed("a --x=5 --no-y", "17 -1 0 -1 -1 3");
    e.runs("a --x=5 --no-y r", 0);
    e.blamed("a --x=5 -- '' --no-y", "13 -1 0 1 -1 5");
    e.blamed("a s --x=5 --y", "13 -1 0 2 -1 4");
    e.runs("a s --x=5 --y --z=1", 1);
    e.puts(1, "a.y=false", 1);
    e.runs("a --x=5 ''", 2);
    Desk f = new Desk().tool(0, "tool a opt x int min 5; opt l list min 5; end;");
    f.runs("a", 0);
    Desk.due("none", all(f, 0, 2), "4:0 4:0");
  }

  static void links() {
    Desk d = new Desk();
    d.tool(0, "tool a opt x flag not y not z; opt y int default 3 env ye; opt z count; opt w text with x with z; end;");
    d.runs("a", 0);
    d.runs("a --x", 1);
    d.blamed("a --x --y=3", "15 -1 0 0 -1 3");
    d.blamed("a --no-x --z", "15 -1 0 0 -1 3");
    d.runs("a --y=3 --z", 2);
    d.puts(0, "ye=4", 1);
    d.blamed("a --x", "15 -1 0 0 -1 2");
    d.x.clear(0);
    d.blamed("a --w=", "16 -1 0 3 -1 2");
    d.blamed("a --w= --x", "16 -1 0 3 -1 3");
    d.puts(1, "a.x=false", 1);
    d.blamed("a --w= --z", "15 -1 0 0 -1 3");
    Desk e = new Desk();
    e.tool(0, "tool a sub s opt w text default \"q\" with x; end; opt x flag; opt v flag not x with x; end;");
    e.runs("a s", 0);
    e.blamed("a s --w=q", "16 -1 0 0 -1 3");
    e.runs("a s --w=q --no-x", 1);
    e.blamed("a --v", "16 -1 0 2 -1 2");
    e.blamed("a --v --x", "15 -1 0 2 -1 3");
  }

  static void firstOne() {
    Desk d = new Desk();
    d.tool(0, "tool a opt x int max 5 not z; opt y int need; opt z flag env ze; rest r int need; end;");
    d.puts(0, "ze=maybe", 1);
    d.blamed("a --x=9 --q q", "6 2 2 -1 -1 4");
    d.blamed("a --x=9 q", "11 2 0 -1 -1 3");
    d.blamed("a --x=9", "12 -1 0 2 1 2");
    d.puts(0, "ze=true", 1);
    d.blamed("a --x=9", "14 -1 0 0 -1 2");
    d.blamed("a --x=5", "15 -1 0 0 -1 2");
    d.x.clear(0);
    d.blamed("a --x=5", "13 -1 0 1 -1 2");
    d.blamed("a --x=5 --y 5", "17 -1 0 -1 -1 4");
    d.runs("a --x=5 --y 5 0", 0);
  }
}
