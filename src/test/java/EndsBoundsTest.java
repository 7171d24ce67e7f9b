/** The bounds that ==== 5 of the document and promises 18, 19 name, sentence by sentence: ENDS and NEAR. */
public final class EndsBoundsTest {
  static final String TOOL = "tool dock opt num int short \"n\"; opt flg flag short \"f\"; opt cnt count short \"c\"; opt lst list short \"l\"; "
      + "opt sec text hidden short \"s\"; opt who one(ann,anton,ben) short \"w\"; opt dat day short \"d\"; rest r text; "
      + "sub load opt way one(up,down); sub lift end; end; sub land end; end;";
  static final String OPTIONS = "--num --flg --cnt --lst --who --dat";

  public static void main(String[] args) {
    stems();
    cutBlames();
    stemCounts();
    comments();
    firstWord();
    wordsAhead();
    lackingAtTheEnd();
    without();
    waiting();
    subs();
    options();
    notToldYet();
    many();
    nearTools();
    nearOptions();
    nearChanges();
    nearOnly();
    shown();
    goAway();
    Desk.end();
  }

  static Desk desk() {
    Desk d = new Desk().tool(0, TOOL).tool(1, "tool dot end;").tool(2, "tool pier opt x flag; end;");
    d.behind = 'q';
    return d;
  }

  static void ends(String line, String names) {
    desk().endsAre(line, names);
  }

  static void blamed(String line, String blames) {
    desk().endsBlamed(line, blames);
  }

  static void ahead(String line, String words) {
    Desk d = desk();
    d.ends(line);
    Desk.due("WORDS ahead in " + line, d.words(), words);
    Desk.due("how many", d.x.blame(5), words.isEmpty() ? 0 : words.split("\\|", -1).length);
  }

  static void stems() {
    Desk.hold("its last WORD, begun but not ended, is the STEM (empty, if the LINE is empty or ends with a blank that parts WORDS)");
    ends("", "dock dot pier");
    ends(" ", "dock dot pier");
    ends("\n", "dock dot pier");
    ends("d", "dock dot");
    ends("doc", "dock");
    ends("dock", "dock");
    ends("docks", "");
    ends("D", "");
    ends("'d'", "dock dot");
    ends("''", "dock dot pier");
    ends("\\d\"o\"", "dock dot");
    ends("d\\ ", "");
    ends("'d '", "");
    ends("dock l", "load land");
    ends("dock l\\o", "load");
    ends("dock ", "load land " + OPTIONS);
    ends("dock\n", "load land " + OPTIONS);
    ends("dock ''", "load land " + OPTIONS);
    ahead("", "");
    ahead("dock", "");
    ahead("dock ", "dock");
    ahead("dock load", "dock");
    ahead("dock load  ", "dock|load");
    ahead("dock 'x y'\\ ", "dock");
    ahead("dock 'x y' ", "dock|x y");
  }

  static void cutBlames() {
    Desk.hold("BLAME 1, 2 as there");
    blamed("dock 'l", "1 -1 5 -1 -1 0");
    blamed("dock \"l", "1 -1 5 -1 -1 0");
    blamed("dock l\\", "1 -1 6 -1 -1 0");
    blamed("'", "1 -1 0 -1 -1 0");
    blamed("\u007f", "1 -1 0 -1 -1 0");
    blamed("dock \u001f", "1 -1 5 -1 -1 0");
    blamed("dock\tx", "1 -1 4 -1 -1 0");
    ends("dock " + Desk.times("l", 39), "");
    ends("dock " + Desk.times("l", 40), "");
    blamed("dock " + Desk.times("l", 41), "2 -1 5 -1 -1 0");
    blamed("dock " + Desk.times("l", 41) + " x", "2 -1 5 -1 -1 0");
    blamed(Desk.times("d", 41), "2 -1 0 -1 -1 0");
    ends("dock --sec " + Desk.times("l", 40) + " --f", "--flg");
  }

  static void stemCounts() {
    Desk.hold("the STEM counts as one, too");
    for (int n = 58; n <= 61; n++) {
      // n WORDS and the STEM
      String line = "dock" + Desk.times(" a", n - 1);
      if (n <= 59) {
        ends(line + " --f", "--flg");
        ends(line + " ", OPTIONS);
        ends(line + " ''", OPTIONS);
        ahead(line + " x", "dock" + Desk.times("|a", n - 1));
      } else {
        blamed(line + " --f", "2 -1 123 -1 -1 0");
        blamed(line + " ", "2 -1 123 -1 -1 0");
        blamed(line + " ''", "2 -1 123 -1 -1 0");
      }
    }
    // without a blank behind it the 60th WORD is the STEM
    ends("dock" + Desk.times(" a", 58) + " --flg", "--flg");
    Desk.hold("the STEM counts as one, too, when ALIASES are put in");
    Desk d = desk();
    d.puts(2, "k=dock a", 1);
    d.endsAre("k" + Desk.times(" a", 56) + " --f", "--flg");
    d.endsAre("k" + Desk.times(" a", 57) + " --f", "--flg");
    d.endsBlamed("k" + Desk.times(" a", 58) + " --f", "2 -1 0 -1 -1 0");
    d.endsBlamed("k" + Desk.times(" a", 58) + " ", "2 -1 0 -1 -1 0");
    d.runs("k" + Desk.times(" a", 58), 0);
  }

  static void comments() {
    Desk.hold("Behind a # there are no ENDS");
    ends("#", "");
    ends("#d", "");
    ends(" # ", "");
    ends("dock #", "");
    ends("dock # l", "");
    ends("dock --who # an", "");
    ends("dock # '", "");
    ends("dock l#", "");
    ends("d#", "");
    ends("dock \\#", "");
    ends("dock" + Desk.times(" a", 59) + " #", "");
    blamed("dock" + Desk.times(" a", 60) + " #", "2 -1 123 -1 -1 0");
    blamed("dok #", "5 0 0 -1 -1 1");
    blamed("dock --x # ", "6 1 2 -1 -1 2");
    ahead("dock load # x", "dock|load");
    Desk d = desk();
    d.endsAre("dock # l", "");
    d.endsAre("dock l", "load land");
    d.runs("dock # l", 0);
    d.endsAre("d", "dock dot");
  }

  static void firstWord() {
    Desk.hold("ALIASES are not put in if the STEM is the first WORD");
    Desk d = desk();
    d.puts(2, "k=dock load", 1);
    d.puts(2, "kk=kk", 1);
    d.puts(2, "none=", 1);
    d.endsAre("k", "k kk");
    d.endsAre("kk", "kk");
    d.endsAre("none", "none");
    d.endsAre("k ", "lift " + OPTIONS + " --way");
    d.endsAre("k l", "lift");
    Desk.due("WORDS ahead", d.words(), "dock|load");
    d.endsBlamed("kk ", "3 0 0 -1 -1 1");
    d.endsBlamed("kk x y", "3 0 0 -1 -1 2");
    d.endsAre("none k", "k kk");
    d.endsAre("none k l", "lift");
    d.endsBlamed("none none x", "3 0 0 -1 -1 1");
  }

  static void wordsAhead() {
    Desk.hold("The WORDS ahead are bound as in 2 (BLAMES 3 to 10)");
    blamed("doc ", "5 0 0 -1 -1 1");
    blamed("doc x y", "5 0 0 -1 -1 2");
    blamed("dock --nun x", "6 1 2 -1 -1 2");
    blamed("dock -x ", "6 1 1 -1 -1 2");
    blamed("dock -fcx y", "6 1 3 -1 -1 2");
    blamed("dock --flg= ", "7 1 2 1 -1 2");
    blamed("dock --no-flg=1 x", "7 1 2 1 -1 2");
    blamed("dock --cnt=1 x", "7 1 2 2 -1 2");
    blamed("dock --num=1 -n2 x", "9 2 1 0 -1 3");
    blamed("dock --who=ann x --who ben --", "9 3 2 5 -1 5");
    blamed("dock land x ", "10 2 0 -1 -1 3");
    blamed("dock land -- --x y", "10 3 0 -1 -1 4");
    // the STEM is not bound
    ends("dock --nun", "");
    ends("dock --flg=", "");
    ends("dock land x", "");
    ends("dock --num=1 --num", "");
    // VALUES are not read, SOURCES not looked at
    ends("dock --num=x --who=y --lst=z --dat= --f", "--flg");
    Desk d = new Desk().tool(0, "tool a opt x int need min 5; opt y flag with x; rest r int need; end;");
    d.puts(1, "a.x=bad", 1);
    d.endsAre("a --y q ", "--x --y");
  }

  static void lackingAtTheEnd() {
    Desk.hold("but 8, which is none if what lacks its VALUE is at their end");
    String[] takers = {"--num", "-n", "-fcn", "--lst", "-l", "--sec", "-s", "--dat", "-d"};
    for (String taker : takers) {
      ends("dock " + taker + " ", "");
      ends("dock " + taker + " x", "");
      ends("dock " + taker + " x --f", "--flg");
      desk().blamed("dock " + taker, "8 1 " + (taker.startsWith("--") ? 2 : taker.length() - 1) + " " + numberOf(taker) + " -1 2");
    }
    ends("dock --num # x", "");
    blamed("dock --num=1 --num ", "9 2 2 0 -1 3");
    blamed("dock --num=1 -fn x", "9 2 2 0 -1 3");
    desk().blamed("dock --num=1 --num", "8 2 2 0 -1 3");
    ends("dock --lst=1 --lst ", "");
  }

  static int numberOf(String taker) {
    String letters = "nfclswd";
    return letters.indexOf(taker.startsWith("--") ? taker.charAt(2) : taker.charAt(taker.length() - 1));
  }

  static void without() {
    Desk.hold("without WORDS ahead (also when ALIASES come to none): TOOLS' NAMES, in order, then ALIASES'");
    Desk empty = new Desk();
    empty.endsAre("", "");
    empty.endsAre("x", "");
    Desk d = desk();
    d.puts(2, "pea=", 1);
    d.puts(2, "apple=dock", 1);
    d.puts(2, "dock=pier", 1);
    d.endsAre("", "dock dot pier pea apple dock");
    d.endsAre("p", "pier pea");
    d.endsAre("dock", "dock dock");
    d.endsAre("pea ", "dock dot pier pea apple dock");
    d.endsAre("pea p", "pier pea");
    Desk.due("no WORDS ahead", d.x.blame(5), 0);
    d.puts(2, "pea=dot", 1);
    d.endsAre("p", "pier pea");
    d.x.clear(2);
    d.endsAre("p", "pier");
    Desk full = new Desk();
    for (int i = 0; i < 12; i++) full.tool(i, "tool t" + i + " end;");
    for (int i = 0; i < 20; i++) full.puts(2, "u" + i + "=t0", 1);
    Desk.due("12 TOOLS and 20 ALIASES", full.ends(""), 32);
    full.x.show(0, 31);
    Desk.due("the last one", full.page(), "u19");
    Desk.due("behind it", full.x.show(0, 32), -1);
  }

  static void waiting() {
    Desk.hold("if an OPTION waits for its VALUE: the NAMES of one (of others nothing)");
    ends("dock --who ", "ann anton ben");
    ends("dock --who an", "ann anton");
    ends("dock --who ann", "ann");
    ends("dock --who anns", "");
    ends("dock -fw b", "ben");
    ends("dock --who=", "");
    ends("dock --who=a", "");
    ends("dock --who --", "");
    ends("dock load --way ", "up down");
    ends("dock --num ", "");
    ends("dock --num --", "");
    ends("dock --sec l", "");
    ends("dock --who ann ", "--num --flg --cnt --lst --dat");
    Desk d = new Desk().tool(0, "tool a opt x one(b,c,d,e,f,g,h,i) hidden; end;");
    d.endsAre("a --x ", "b c d e f g h i");
  }

  static void subs() {
    Desk.hold("else, if there is no WORD but NAMES of the PATH: the PLACE's SUBS");
    ends("dock ", "load land " + OPTIONS);
    ends("dock l", "load land");
    ends("dock load ", "lift " + OPTIONS + " --way");
    ends("dock load l", "lift");
    ends("dock load lift ", OPTIONS + " --way");
    ends("dock land ", OPTIONS);
    ends("dock -f l", "");
    ends("dock -- l", "");
    ends("dock x l", "");
    ends("dock load -f l", "");
    ends("dot ", "");
    ends("pier ", "--x");
  }

  static void options() {
    Desk.hold("then, if no -- was there, --x of all OPTIONS x of the PATH that are not hidden");
    ends("dock -", OPTIONS);
    ends("dock --", OPTIONS);
    ends("dock --n", "--num");
    ends("dock --num", "--num");
    ends("dock --num=", "");
    ends("dock --s", "");
    ends("dock --no-", "");
    ends("dock -f", "");
    ends("dock x --w", "--who");
    ends("dock load --w", "--who --way");
    ends("dock land --w", "--who");
    ends("dock -- ", "");
    ends("dock -- --", "");
    ends("dock x -- -", "");
    ends("dock --sec -- --d", "--dat");
    ends("dock -s -- --d", "--dat");
  }

  static void notToldYet() {
    Desk.hold("and, but for flags, counts, lists, not told yet");
    ends("dock --num=1 --", "--flg --cnt --lst --who --dat");
    ends("dock -n 1 --", "--flg --cnt --lst --who --dat");
    ends("dock --who=x --", "--num --flg --cnt --lst --dat");
    ends("dock -d x --", "--num --flg --cnt --lst --who");
    ends("dock --flg --no-flg -c --cnt --lst=1 -l2 --", OPTIONS);
    ends("dock -fcn1 -wx -dy --", "--flg --cnt --lst");
    Desk d = desk();
    d.puts(1, "dock.num=5", 1);
    d.endsAre("dock --n", "--num");
  }

  static void many() {
    Desk.hold("as many ENDS as can be");
    StringBuilder all = new StringBuilder("tool t ");
    for (int i = 0; i < 40; i++) all.append("opt o").append(i).append(" flag; ");
    for (int i = 0; i < 16; i++) all.append("sub s").append(i).append(" end; ");
    Desk d = new Desk().tool(0, all + "end;");
    Desk.due("16 SUBS and 40 OPTIONS", d.ends("t "), 56);
    d.x.show(0, 0);
    Desk.due("the first one", d.page(), "s0");
    d.x.show(0, 15);
    Desk.due("the last SUB", d.page(), "s15");
    d.x.show(0, 55);
    Desk.due("the last OPTION", d.page(), "--o39");
    Desk.due("behind it", d.x.show(0, 56), -1);
    d.blamed("t --p9", "6 1 2 -1 -1 2");
    Desk.due("NEAR: the nearest alone", d.names(1), "o9");
    d.blamed("t --oxx", "6 1 2 -1 -1 2");
    Desk.due("NEAR: all of two changes", d.x.count(8), 40);
    Desk.due("behind the last", d.x.show(1, 40), -1);
    Desk.due("the last", d.x.show(1, 39), 3);
    Desk.due("the last", d.page(), "o39");
  }

  static void near(Desk d, String line, String names) {
    d.run(line);
    Desk.due("NEAR of " + line, d.names(1), names);
    Desk.due("how many of " + line, d.x.count(8), names.isEmpty() ? 0 : names.split(" ").length);
  }

  static void nearTools() {
    Desk.hold("NEAR: behind BLAME 5 the NAMES (TOOLS')");
    Desk d = desk();
    d.puts(2, "dokk=dock", 1);
    near(d, "doc", "dock dot");
    near(d, "dok", "dock dot");
    near(d, "dockk", "dock");
    near(d, "pir", "pier");
    near(d, "do", "dot");
    near(d, "d", "dot");
    near(d, "x", "");
    near(d, "''", "");
    near(d, "pierced", "");
    near(d, "pierce", "pier");
    near(d, "Dock", "dock");
    near(d, "load", "");
    near(d, Desk.times("d", 40), "");
    near(d, "--num", "");
    near(new Desk(), "a", "");
    Desk two = new Desk().tool(0, "tool ab end;").tool(1, "tool b end;");
    near(two, "''", "b");
    near(two, "a", "ab b");
  }

  static void nearOptions() {
    Desk.hold("NEAR: behind 6 (of --x) those of OPTIONS of the PATH");
    Desk d = desk();
    near(d, "dock --nun", "num");
    near(d, "dock --nun=5", "num");
    near(d, "dock --sek", "sec");
    near(d, "dock --wax", "who dat");
    near(d, "dock load --wax", "way");
    near(d, "dock land --wax", "who dat");
    near(d, "dock --wa", "who dat");
    near(d, "dock --no-num", "");
    near(d, "dock --no-x", "");
    near(d, "dock --=", "");
    near(d, "dock --nun", "num");
    near(d, "dock -x", "");
    near(d, "dock -fx", "");
    near(d, "dock -fnx --nun", "num");
    near(d, "dock --r", "");
    near(d, "pier --flg", "");
    near(d, "pier --", "");
    near(d, "pier --xy", "x");
    near(d, "pier --=5", "x");
    Desk e = new Desk().tool(0, "tool a opt x flag; opt xy flag; opt y flag; end;");
    near(e, "a --=5", "x y");
    near(e, "a --", "");
    near(e, "a --xz=5", "x xy");
  }

  static void nearChanges() {
    Desk.hold("the least number of changes (a byte put in, taken out, another one) is least, and at most 2, in order");
    Desk d = new Desk().tool(0, "tool abcdef end;").tool(1, "tool abcdeg end;").tool(2, "tool zzabcdef end;");
    near(d, "abcde", "abcdef abcdeg");
    near(d, "abcdeh", "abcdef abcdeg");
    near(d, "abcdf", "abcdef");
    near(d, "bcdef", "abcdef");
    near(d, "abcdeff", "abcdef");
    near(d, "xabcdef", "abcdef");
    near(d, "zabcdef", "abcdef zzabcdef");
    near(d, "abcd", "abcdef abcdeg");
    near(d, "abcdefgh", "abcdef abcdeg");
    near(d, "bacdef", "abcdef");
    near(d, "abxdxf", "abcdef");
    near(d, "abc", "");
    near(d, "xxcdex", "");
    near(d, "abcdexyz", "");
    near(d, "zzabcd", "zzabcdef");
    near(d, "zabcdeg", "abcdeg");
    Desk e = new Desk().tool(0, "tool abcdefghij end;");
    near(e, "abcdefghijkl", "abcdefghij");
    near(e, "abcdefghijklm", "");
    near(e, "abcdefgh", "abcdefghij");
    near(e, "abcdefg", "");
  }

  static void nearOnly() {
    Desk.hold("NEAR: behind BLAMES 5 and 6 alone");
    Desk d = desk();
    near(d, "dock --flg=1", "");
    near(d, "dock --num", "");
    near(d, "dock --num=1 --num=2", "");
    near(d, "dock land lift", "");
    near(d, "dock --who=anm", "");
    near(d, "doc '", "");
    near(d, "", "");
    near(d, "dock", "");
    d.endsBlamed("doc ", "5 0 0 -1 -1 1");
    Desk.due("of ends()", d.names(1), "dock dot");
    d.endsBlamed("dock --nun ", "6 1 2 -1 -1 2");
    Desk.due("of ends()", d.names(1), "num");
  }

  static void shown() {
    Desk.hold("NONE, and the PAGE stays, without one. IllegalArgumentException: another sort");
    Desk d = desk();
    Desk.due("of a new one", d.x.show(0, 0), -1);
    Desk.due("of a new one", d.x.show(1, 0), -1);
    d.ends("d");
    Desk.due("END 1", d.x.show(0, 1), 3);
    Desk.due("END 1", d.page(), "dot");
    int[] far = {-1, 2, 3, Integer.MAX_VALUE, Integer.MIN_VALUE};
    for (int k : far) Desk.due("END " + k, d.x.show(0, k), -1);
    for (int k : far) Desk.due("NEAR " + k, d.x.show(1, k), -1);
    Desk.due("NEAR 0", d.x.show(1, 0), -1);
    Desk.due("the PAGE stays", d.page(), "dot");
    int[] others = {-1, 2, 3, Integer.MAX_VALUE, Integer.MIN_VALUE};
    for (int sort : others) Desk.thrown("show(" + sort + ", 0)", () -> d.x.show(sort, 0), 1);
    Desk.due("the PAGE stays", d.page(), "dot");
    Desk.due("END 0", d.x.show(0, 0), 4);
    Desk.due("END 0", d.page(), "dock");
    d.run("doc");
    Desk.due("NEAR 2", d.x.show(1, 2), -1);
    Desk.due("NEAR 1", d.x.show(1, 1), 3);
    Desk.due("END 0", d.x.show(0, 0), -1);
  }

  static void goAway() {
    Desk.hold("ENDS and NEAR names of the call ahead go");
    Desk d = desk();
    d.ends("d");
    Desk.due("ENDS", d.x.count(7), 2);
    d.runs("dock", 0);
    Desk.due("ENDS go with run()", d.x.count(7), 0);
    d.run("doc");
    Desk.due("NEAR", d.x.count(8), 2);
    d.runs("dock", 1);
    Desk.due("NEAR go with run()", d.x.count(8), 0);
    d.run("doc");
    d.ends("pi");
    Desk.due("NEAR go with ends()", d.x.count(8), 0);
    Desk.due("ENDS", d.names(0), "pier");
    d.ends("doc x");
    Desk.due("ENDS go with a BLAME (there are none then)", d.x.count(7), 0);
    Desk.due("NEAR", d.names(1), "dock dot");
    d.feed("x");
    Desk.thrown("run(21)", () -> d.x.run(21), 1);
    Desk.thrown("ends(-1)", () -> d.x.ends(-1), 1);
    Desk.due("a throw leaves them", d.names(1), "dock dot");
    d.describe("tool x end;");
    d.puts(0, "a=b", 1);
    d.x.clear(0);
    d.x.print(0);
    Desk.due("other calls leave them", d.names(1), "dock dot");
  }
}
