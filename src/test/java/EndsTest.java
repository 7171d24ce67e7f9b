/** Promises 18, 19 and the NEAR names of 7: ENDS and NEAR. */
public final class EndsTest {
  static final String QUAY = "tool quay opt num int short \"n\"; opt flg flag short \"f\"; opt cnt count; opt lst list; opt sec text hidden; "
      + "opt who one(ann,anton,ben) short \"w\"; rest r text; sub load opt way one(up,down); sub lift end; end; sub land end; sub bare end; end;";

  public static void main(String[] args) {
    first();
    stems();
    options();
    waiting();
    comments();
    blames();
    secondTimes();
    aliases();
    limits();
    near();
    gone();
    Desk.end();
  }

  static Desk quay() {
    return new Desk().tool(0, QUAY).tool(1, "tool quit end;").tool(2, "tool berth end;");
  }

  static void first() {
    Desk d = quay();
    d.endsAre("", "quay quit berth");
    d.endsAre("  ", "quay quit berth");
    d.endsAre("qu", "quay quit");
    d.endsAre("quay", "quay");
    d.endsAre("quays", "");
    d.endsAre("'q'", "quay quit");
    d.puts(2, "quo=quay", 1);
    d.puts(2, "a=quay", 1);
    d.endsAre("", "quay quit berth quo a");
    d.endsAre(" qu", "quay quit quo");
    d.endsAre("quo", "quo");
    Desk.due("words ahead", d.x.blame(5), 0);
    Desk.due("no records come", d.x.count(1), 0);
  }

  static void stems() {
    Desk d = quay();
    d.endsAre("quay l", "load land");
    d.endsAre("quay 'l'", "load land");
    d.endsAre("quay ''", "load land bare --num --flg --cnt --lst --who");
    d.endsAre("quay \\l", "load land");
    d.endsAre("quay\\ ", "");
    d.endsAre("quay\n", "load land bare --num --flg --cnt --lst --who");
    d.endsAre("quay load ", "lift --num --flg --cnt --lst --who --way");
    d.endsAre("quay load l", "lift");
    d.endsAre("quay land ", "--num --flg --cnt --lst --who");
    d.endsAre("quay x ", "--num --flg --cnt --lst --who");
    d.endsAre("quay -f ", "--num --flg --cnt --lst --who");
    Desk.due("words ahead", d.words(), "quay|-f");
    d.endsAre("quay l ", "--num --flg --cnt --lst --who");
    d.endsAre("quit ", "");
  }

  static void options() {
    Desk d = quay();
    d.endsAre("quay --", "--num --flg --cnt --lst --who");
    d.endsAre("quay -", "--num --flg --cnt --lst --who");
    d.endsAre("quay --l", "--lst");
    d.endsAre("quay --lst=", "");
    d.endsAre("quay --sec", "");
    d.endsAre("quay --no-", "");
    d.endsAre("quay -n", "");
    d.endsAre("quay --num=1 --", "--flg --cnt --lst --who");
    d.endsAre("quay --num=x --lst q --flg --cnt --", "--flg --cnt --lst --who");
    d.endsAre("quay -wx --sec y -n5 ", "--flg --cnt --lst");
    d.endsAre("quay -- ", "");
    d.endsAre("quay -- -", "");
    d.endsAre("quay --sec -- --w", "--who");
    d.endsAre("quay --num=99999999999 ", "--flg --cnt --lst --who");
  }

  static void waiting() {
    Desk d = quay();
    d.endsAre("quay --who ", "ann anton ben");
    d.endsAre("quay --who an", "ann anton");
    d.endsAre("quay -fw a", "ann anton");
    d.endsAre("quay --who --", "");
    d.endsAre("quay --who=", "");
    d.endsAre("quay --num ", "");
    d.endsAre("quay --lst ", "");
    d.endsAre("quay --lst 1 --lst ", "");
    d.endsAre("quay load --way d", "down");
    d.endsAre("quay --who l", "");
    d.endsAre("quay --who ann ", "--num --flg --cnt --lst");
  }

  static void comments() {
    Desk d = quay();
    d.endsAre("#", "");
    d.endsAre("quay #", "");
    d.endsAre("quay # l", "");
    d.endsAre("quay # ' \t", "");
    d.endsAre("quay l#", "");
    Desk.due("words ahead", d.words(), "quay");
  }

  static void blames() {
    Desk d = quay();
    d.endsBlamed("quay 'l", "1 -1 5 -1 -1 0");
    d.endsBlamed("quay l\\", "1 -1 6 -1 -1 0");
    d.endsBlamed("quay l\t", "1 -1 6 -1 -1 0");
    d.endsBlamed("quay " + Desk.times("l", 41), "2 -1 5 -1 -1 0");
    d.endsBlamed("qua ", "5 0 0 -1 -1 1");
    Desk.due("near", d.names(1), "quay");
    d.endsBlamed("quay --nun l", "6 1 2 -1 -1 2");
    Desk.due("near", d.names(1), "num");
    d.endsBlamed("quay -fx ", "6 1 2 -1 -1 2");
    Desk.due("near", d.names(1), "");
    d.endsBlamed("quay --flg=1 ", "7 1 2 1 -1 2");
    d.endsBlamed("quay --num 1 --num=2 ", "9 3 2 0 -1 4");
    d.endsBlamed("quay land --num=2 x y", "10 3 0 -1 -1 4");
    d.endsBlamed("quit x ", "10 1 0 -1 -1 2");
    d.endsAre("quit x", "");
    d.endsAre("qua", "quay");
  }

  // 8 is none at the end, so that 9 is left
  static void secondTimes() {
    Desk d = quay();
    d.endsBlamed("quay --who=ann --who an", "9 2 2 5 -1 3");
    d.endsBlamed("quay --who=ann --who ", "9 2 2 5 -1 3");
    d.endsBlamed("quay --num=1 -n ", "9 2 1 0 -1 3");
    d.endsBlamed("quay -n 1 -fn 5", "9 3 2 0 -1 4");
    d.endsBlamed("quay -n 1 -n # x", "9 3 1 0 -1 4");
    d.blamed("quay -n 1 -n", "8 3 1 0 -1 4");
    d.blamed("quay -n 1 -n 2", "9 3 1 0 -1 5");
    d.endsAre("quay -n 1 -n", "");
    d.endsAre("quay -n ", "");
    d.endsAre("quay --lst 1 --lst ", "");
    d.endsAre("quay --who ann --num ", "");
    d.puts(2, "w=quay --who ann --who", 1);
    d.endsBlamed("w b", "9 3 2 5 -1 4");
  }

  static void aliases() {
    Desk d = quay();
    d.puts(2, "q=quay load", 1);
    d.puts(2, "e=", 1);
    d.puts(2, "w=quay --who", 1);
    d.puts(2, "loop=loop", 1);
    d.endsAre("q", "quay quit q");
    d.endsAre("q l", "lift");
    Desk.due("words ahead", d.words(), "quay|load");
    d.endsAre("w b", "ben");
    d.endsAre("e q", "quay quit q");
    d.endsAre("e ", "quay quit berth q e w loop");
    Desk.due("words ahead", d.x.blame(5), 0);
    d.endsAre("e q li", "lift");
    d.endsBlamed("loop x", "3 0 0 -1 -1 1");
    d.endsAre("loop", "loop");
  }

  static void limits() {
    Desk d = quay();
    d.endsAre("quay" + Desk.times(" a", 58) + " --f", "--flg");
    d.endsAre("quay" + Desk.times(" a", 58) + " ", "--num --flg --cnt --lst --who");
    d.endsBlamed("quay" + Desk.times(" a", 59) + " b", "2 -1 123 -1 -1 0");
    d.endsBlamed("quay" + Desk.times(" a", 59) + " ", "2 -1 123 -1 -1 0");
    d.puts(2, "q=quay a", 1);
    d.endsAre("q" + Desk.times(" a", 57) + " --f", "--flg");
    d.endsBlamed("q" + Desk.times(" a", 58) + " --f", "2 -1 0 -1 -1 0");
    StringBuilder all = new StringBuilder("tool t ");
    for (int i = 0; i < 40; i++) all.append("opt o").append(i).append(" flag; ");
    for (int i = 0; i < 16; i++) all.append("sub s").append(i).append(" end; ");
    Desk many = new Desk().tool(0, all + "end;");
    Desk.due("all ends", many.ends("t "), 56);
    many.x.show(0, 55);
    Desk.due("the last", many.page(), "--o39");
    Desk.due("near all", many.run("t --p"), -14);
    Desk.due("near ones", many.x.count(8), 40 - 30);
    Desk.due("first names", many.names(1), "o0 o1 o2 o3 o4 o5 o6 o7 o8 o9");
  }

  static void nearOf(Desk d, String line, String names) {
    d.run(line);
    Desk.due("NEAR of " + line, d.names(1), names);
    Desk.due("count(8) of " + line, d.x.count(8), names.isEmpty() ? 0 : names.split(" ").length);
  }

  static void near() {
    Desk d = new Desk();
    d.tool(0, "tool quay opt num int; opt numb int; opt nub int hidden; rest none text; sub s opt dumb int; end; end;");
    d.tool(1, "tool quak end;");
    d.tool(2, "tool berth end;");
    nearOf(d, "qua", "quay quak");
    nearOf(d, "quan", "quay quak");
    nearOf(d, "quaay", "quay");
    nearOf(d, "quayak", "quay quak");
    nearOf(d, "quayy", "quay");
    nearOf(d, "qu", "quay quak");
    nearOf(d, "q", "");
    nearOf(d, "bert", "berth");
    nearOf(d, "breth", "berth");
    nearOf(d, "", "");
    nearOf(d, "quay --nu=5", "num nub");
    nearOf(d, "quay --numm", "num numb");
    nearOf(d, "quay --dumb", "numb");
    nearOf(d, "quay s --dum", "num dumb");
    nearOf(d, "quay s --dumbo", "dumb");
    nearOf(d, "quay --none", "");
    nearOf(d, "quay --no-num", "");
    nearOf(d, "quay --n", "num nub");
    nearOf(d, "quay --", "");
    nearOf(d, "quay --=5", "");
    nearOf(d, "quay -x", "");
    nearOf(d, "quay --num", "");
  }

  static void gone() {
    Desk d = quay();
    d.ends("q");
    Desk.due("ENDS", d.x.count(7), 2);
    d.tool(3, "tool more end;");
    d.puts(0, "a=b", 1);
    Desk.due("ENDS stay", d.names(0), "quay quit");
    d.ends("b");
    Desk.due("behind the last", d.x.show(0, 1), -1);
    d.run("quai");
    Desk.due("ENDS go", d.x.count(7), 0);
    Desk.due("show(0, 0)", d.x.show(0, 0), -1);
    Desk.due("NEAR", d.names(1), "quay");
    d.run("quay");
    Desk.due("NEAR go", d.x.count(8), 0);
    d.run("quai");
    d.ends("q");
    Desk.due("NEAR go", d.x.count(8), 0);
    Desk.due("show(1, 0)", d.x.show(1, 0), -1);
  }
}
