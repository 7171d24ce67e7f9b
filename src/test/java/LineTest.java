/** Promises 7, 8, 9: LINES, ALIASES and BLAMES 1 to 11. */
public final class LineTest {
  static final String BERTH = "tool berth opt speed int short \"s\" min 0 max 30; opt verbose count short \"v\"; "
      + "opt dry flag short \"d\"; opt note text short \"n\"; rest ships text; "
      + "sub load opt crew list short \"c\"; opt mode one(fast,slow) short \"m\"; opt date day; rest tons int; end; "
      + "sub bare sub deep opt far flag; end; end; end;";

  public static void main(String[] args) {
    cutting();
    badBytes();
    tooLong();
    firstFromTheLeft();
    aliases();
    aliasLimits();
    places();
    options();
    values();
    Desk.end();
  }

  static Desk berth() {
    return new Desk().tool(0, BERTH);
  }

  static void cut(Desk d, String text, String words) {
    d.run(text);
    Desk.due("words of " + text, d.words(), words);
  }

  static void cutting() {
    Desk d = berth();
    cut(d, "", "");
    Desk.due("blames of an empty line", d.blames(), "4 -1 0 -1 -1 0");
    cut(d, " \n ", "");
    cut(d, "# a", "");
    cut(d, "x y", "x|y");
    cut(d, "\n x \n y ", "x|y");
    cut(d, "x #y z", "x");
    cut(d, "x y#z", "x|y#z");
    cut(d, "x ''#z", "x|#z");
    cut(d, "x \\#z", "x|#z");
    cut(d, "x '' \"\"", "x||");
    cut(d, "x 'a b'\"c d\"e", "x|a bc de");
    cut(d, "x 'a\\' b", "x|a\\|b");
    cut(d, "x '\"' \"'\"", "x|\"|'");
    cut(d, "x \"a\\\"b\\\\\\c\"", "x|a\"b\\c");
    cut(d, "x a\\ b\\'\\\"\\\\", "x|a b'\"\\");
    cut(d, "x 'a\nb' c\\\nd", "x|a\nb|c\nd");
    Desk.due("word(1, 1)", d.x.word(1, 1), 10);
    Desk.due("word(1, 3)", d.x.word(1, 3), -1);
    Desk.due("word(1, -1)", d.x.word(1, -1), -1);
    Desk.due("word(3, 0)", d.x.word(3, 0), -1);
    Desk.due("word(-1, 0)", d.x.word(-1, 0), -1);
  }

  static void badBytes() {
    Desk d = berth();
    d.blamed("berth a\tb", "1 -1 7 -1 -1 0");
    d.blamed("\t", "1 -1 0 -1 -1 0");
    d.blamed("berth \u007f", "1 -1 6 -1 -1 0");
    d.blamed("berth '\u00e9'", "1 -1 7 -1 -1 0");
    d.blamed("berth \"\u0001\"", "1 -1 7 -1 -1 0");
    d.blamed("berth \"\\\u0001\"", "1 -1 8 -1 -1 0");
    d.blamed("berth \\\t", "1 -1 7 -1 -1 0");
    d.runs("berth # \t\u00ff '", 0);
    d.feed("berth 'a' \"b\" c");
    Desk.due("the quote is beyond n", d.x.run(8), -19);
    d.feed("berth \"a\" c");
    Desk.due("the quote is beyond n", d.x.run(8), -19);
    d.feed("berth \"a\\\" c");
    Desk.due("the quote is beyond n", d.x.run(9), -19);
    Desk.due("its place", d.x.blame(2), 6);
    d.blamed("berth a'b", "1 -1 7 -1 -1 0");
    d.blamed("berth \"a b", "1 -1 6 -1 -1 0");
    d.blamed("berth \"a\\\"", "1 -1 6 -1 -1 0");
    d.blamed("berth \"a\\", "1 -1 6 -1 -1 0");
    d.blamed("berth a\\", "1 -1 7 -1 -1 0");
    d.blamed("berth 'it''", "1 -1 10 -1 -1 0");
    d.blamed("nothing --x 'it", "1 -1 12 -1 -1 0");
  }

  static void tooLong() {
    Desk d = berth();
    d.runs("berth " + Desk.times("a", 40), 0);
    d.blamed("berth  " + Desk.times("a", 41), "2 -1 7 -1 -1 0");
    d.blamed("berth b'" + Desk.times("a", 40) + "' '", "2 -1 6 -1 -1 0");
    d.runs("berth '" + Desk.times("a", 40) + "'", 1);
    d.runs("berth" + Desk.times(" a", 59), 2);
    Desk.due("sixty words", d.x.blame(5), 60);
    d.blamed("berth" + Desk.times(" a", 59) + "  b", "2 -1 125 -1 -1 0");
    d.blamed("berth" + Desk.times(" a", 60) + " b '", "2 -1 124 -1 -1 0");
    d.runs("berth" + Desk.times(" a", 59) + "  #b", 3);
  }

  // what is wrong is met byte by byte: a 41st byte, a 61st WORD's begin ahead of all that stands further right
  static void firstFromTheLeft() {
    Desk d = berth();
    String forty = Desk.times("a", 40);
    d.blamed("berth '" + forty + "b", "2 -1 6 -1 -1 0");
    d.blamed("berth \"" + forty + "b", "2 -1 6 -1 -1 0");
    d.blamed("berth '" + forty + "b\t'", "2 -1 6 -1 -1 0");
    d.blamed("berth " + forty + "b\u00ff", "2 -1 6 -1 -1 0");
    d.blamed("berth " + forty + "b\\", "2 -1 6 -1 -1 0");
    d.blamed("berth " + forty + "\\b'", "2 -1 6 -1 -1 0");
    d.blamed("berth " + forty + "\\", "1 -1 46 -1 -1 0");
    d.blamed("berth " + forty + "'", "1 -1 46 -1 -1 0");
    d.blamed("berth '" + forty, "1 -1 6 -1 -1 0");
    d.blamed("berth \"" + forty + "\\", "1 -1 6 -1 -1 0");
    d.blamed("berth '" + forty + "\\", "2 -1 6 -1 -1 0");
    d.blamed("berth " + forty + "\t", "1 -1 46 -1 -1 0");
    d.blamed("berth \t" + forty + "b", "1 -1 6 -1 -1 0");
    d.blamed("berth " + forty + "b '", "2 -1 6 -1 -1 0");
    d.endsBlamed("berth '" + forty + "b", "2 -1 6 -1 -1 0");
    String sixty = "berth" + Desk.times(" a", 59);
    d.blamed(sixty + " 'b", "2 -1 124 -1 -1 0");
    d.blamed(sixty + " b\t", "2 -1 124 -1 -1 0");
    d.blamed(sixty + " \\", "2 -1 124 -1 -1 0");
    d.blamed(sixty + " \t", "2 -1 124 -1 -1 0");
    d.blamed(sixty + "\t", "1 -1 123 -1 -1 0");
    d.puts(2, "long='" + forty + "b'", 0);
    d.puts(2, "long='" + forty + "'", 1);
  }

  static void aliases() {
    Desk d = berth();
    d.puts(2, "b=berth --note 'x y'", 1);
    d.puts(2, "bb=b -d", 1);
    d.puts(2, "e=", 1);
    d.puts(2, "f=#x", 1);
    d.puts(2, "loop=pool", 1);
    d.puts(2, "pool=loop 1 2", 1);
    d.puts(2, "berth2=berth", 1);
    d.runs("bb q", 0);
    Desk.due("words", d.words(), "berth|--note|x y|-d|q");
    d.runs("'b'", 1);
    d.runs("e f bb", 2);
    Desk.due("words", d.words(), "berth|--note|x y|-d");
    d.blamed("e", "4 -1 0 -1 -1 0");
    d.blamed("e f", "4 -1 0 -1 -1 0");
    d.blamed("e e berth", "3 0 0 -1 -1 2");
    Desk.due("words of 3", d.words(), "e|berth");
    d.blamed("loop 3", "3 0 0 -1 -1 4");
    Desk.due("words of 3", d.words(), "loop|1|2|3");
    d.runs("berth b", 3);
    Desk.due("the first word alone", d.words(), "berth|b");
    d.puts(2, "b=berth other", 1);
    d.runs("b", 4);
    Desk.due("in its place", d.words(), "berth|other");
    Desk.due("clear(2)", d.x.clear(2), 7);
    d.blamed("b", "5 0 0 -1 -1 1");
    d.puts(2, "berth=berth", 1);
    d.blamed("berth x", "3 0 0 -1 -1 2");
  }

  static void aliasLimits() {
    Desk d = berth();
    d.puts(2, "many=berth" + Desk.times(" a", 27), 1);
    d.runs("many" + Desk.times(" a", 32), 0);
    Desk.due("sixty", d.x.blame(5), 60);
    d.blamed("many" + Desk.times(" a", 33), "2 -1 0 -1 -1 0");
    Desk thirty = new Desk().tool(0, "tool a rest r text; end;");
    thirty.puts(2, "b=" + Desk.times("a ", 30), 1);
    thirty.runs("b c", 0);
    Desk.due("words of an alias", thirty.words(), "a" + Desk.times("|a", 29) + "|c");
    Desk chain = berth();
    for (int i = 0; i < 19; i++) chain.puts(2, "a" + i + "=a" + (i + 1) + " x", 1);
    chain.puts(2, "a19=berth", 1);
    chain.runs("a0", 0);
    Desk.due("twenty aliases", chain.x.blame(5), 20);
    Desk ring = berth();
    for (int i = 0; i < 19; i++) ring.puts(2, "a" + i + "=a" + (i + 1) + " x", 1);
    ring.puts(2, "a19=a0", 1);
    ring.blamed("a0", "3 0 0 -1 -1 20");
    Desk.due("words then", ring.words(), "a0" + Desk.times("|x", 19));
  }

  static void places() {
    Desk d = berth();
    d.blamed("bert", "5 0 0 -1 -1 1");
    d.blamed("Berth x y", "5 0 0 -1 -1 3");
    d.blamed("'' x", "5 0 0 -1 -1 2");
    d.runs("berth load 5", 0);
    Desk.due("subs", d.x.record(0, 1), 1);
    Desk.due("rest", d.x.record(0, 2), 1);
    d.runs("berth bare deep", 1);
    Desk.due("subs", d.x.record(1, 1), 2);
    d.runs("berth -d load", 2);
    Desk.due("subs", d.x.record(2, 1), 0);
    Desk.due("rest", d.x.record(2, 2), 1);
    d.runs("berth deep", 3);
    d.blamed("berth bare deep x", "10 3 0 -1 -1 4");
    d.blamed("berth bare load", "10 2 0 -1 -1 3");
    d.blamed("berth bare -- -d", "10 3 0 -1 -1 4");
    d.runs("berth bare --", 4);
    d.runs("berth -- -- -d --dry", 5);
    Desk.due("behind --", d.print(5), "berth -- -- -d --dry");
    d.runs("berth - -5 -_ =", 6);
    Desk.due("no options", d.print(6), "berth -- - -5 -_ '='");
    d.blamed("berth load -5x", "11 2 0 -1 -1 3");
    d.blamed("berth --far", "6 1 2 -1 -1 2");
    d.runs("berth bare deep --far -d", 7);
  }

  static void options() {
    Desk d = berth();
    d.blamed("berth x --sped=5", "6 2 2 -1 -1 3");
    d.blamed("berth --=5", "6 1 2 -1 -1 2");
    d.blamed("berth --no-speed", "6 1 2 -1 -1 2");
    d.blamed("berth --no-", "6 1 2 -1 -1 2");
    d.blamed("berth -dx", "6 1 2 -1 -1 2");
    d.blamed("berth -x", "6 1 1 -1 -1 2");
    d.blamed("berth -d=1", "6 1 2 -1 -1 2");
    d.blamed("berth -d1", "6 1 2 -1 -1 2");
    d.blamed("berth --dry=", "7 1 2 2 -1 2");
    d.blamed("berth --no-dry=1", "7 1 2 2 -1 2");
    d.blamed("berth -d --verbose=1", "7 2 2 1 -1 3");
    d.blamed("berth --speed", "8 1 2 0 -1 2");
    d.blamed("berth -dvs", "8 1 3 0 -1 2");
    d.blamed("berth --speed 1 --speed", "8 3 2 0 -1 4");
    d.blamed("berth --speed 1 -ds2", "9 3 2 0 -1 4");
    d.blamed("berth --note= --note=x", "9 2 2 3 -1 3");
    d.blamed("berth --note --note --note=x", "9 3 2 3 -1 4");
    d.blamed("berth bare --note=x y --speed", "10 3 0 -1 -1 5");
    d.runs("berth --dry --no-dry", 0);
    Desk.due("flag", d.x.value(0, 2), 0);
    Desk.due("flag source", d.x.source(0, 2), 0);
    d.runs("berth --no-dry -dd", 1);
    Desk.due("flag", d.x.value(1, 2), 1);
    d.runs("berth -vdvv --verbose", 2);
    Desk.due("count", d.x.value(2, 1), 4);
    d.runs("berth --note --", 3);
    Desk.due("value is whatever comes", d.print(3), "berth --note=--");
    d.runs("berth --note --dry -d x", 4);
    Desk.due("value is whatever comes", d.print(4), "berth --dry --note=--dry -- x");
  }

  static void values() {
    Desk d = berth();
    d.runs("berth --speed=007 -n=x", 0);
    Desk.due("print", d.print(0), "berth --speed=7 --note='=x'");
    d.blamed("berth --speed=", "11 1 0 0 -1 2");
    d.blamed("berth --speed +5", "11 2 0 0 -1 3");
    d.blamed("berth --speed -", "11 2 0 0 -1 3");
    d.blamed("berth --speed 12345678901", "11 2 0 0 -1 3");
    d.blamed("berth --speed 2147483648", "11 2 0 0 -1 3");
    d.blamed("berth --speed 2147483647", "14 -1 0 0 -1 3");
    d.blamed("berth --speed -2147483649", "11 2 0 0 -1 3");
    d.blamed("berth --speed -2147483648", "14 -1 0 0 -1 3");
    d.blamed("berth --speed ' 5'", "11 2 0 0 -1 3");
    d.blamed("berth -s5x y", "11 1 0 0 -1 3");
    d.runs("berth load -c1,-2 --crew 0000000003,4 -7 2147483647", 1);
    Desk.due("how many", d.x.value(1, 4), 4);
    Desk.due("item 1", d.x.item(1, 4, 1), -2);
    Desk.due("item 2", d.x.item(1, 4, 2), 3);
    Desk.due("item 4", d.x.item(1, 4, 4), 0);
    Desk.due("print", d.print(1), "berth load --crew=1,-2,3,4 -- -7 2147483647");
    d.blamed("berth load --crew=", "11 2 0 4 -1 3");
    d.blamed("berth load --crew=1,", "11 2 0 4 -1 3");
    d.blamed("berth load --crew=,1", "11 2 0 4 -1 3");
    d.blamed("berth load --crew=1,,1", "11 2 0 4 -1 3");
    d.runs("berth load --crew=1,2,3,4,5,6,7,8,9,10", 2);
    d.blamed("berth load --crew=1,2,3,4,5,6,7,8,9,10,11", "11 2 0 4 -1 3");
    d.blamed("berth load --crew 1,2,3,4,5 3 -c6,7,8,9,10,11 x", "11 5 0 4 -1 7");
    d.blamed("berth load --mode=fas", "11 2 0 5 -1 3");
    d.blamed("berth load --mode=", "11 2 0 5 -1 3");
    d.runs("berth load -mslow", 3);
    Desk.due("which", d.x.value(3, 5), 1);
    d.blamed("berth load 5 x --mode=q", "11 3 0 -1 -1 5");
    d.blamed("berth load --mode=q x", "11 2 0 5 -1 4");
    d.blamed("berth load --speed 99 5 '' ", "11 5 0 -1 -1 6");
    days(berth());
  }

  static void days(Desk d) {
    String[] wrong = {"2023-02-29", "1900-02-29", "2024-13-01", "2024-00-01", "2024-04-31", "2024-01-00", "2024-1-01",
      "2024-01-1", "02024-01-01", "1599-12-31", "2400-01-01", "2024/01/01", "", "2024-01-01x", "-024-01-01", "20a4-01-01",
      "2024-02-30", "2024x01-01", "2024-01x01"};
    for (String day : wrong) d.blamed("berth load --date '" + day + "'", "11 3 0 6 -1 4");
    String[] right = {"1970-01-01", "1969-12-31", "1600-01-01", "2399-12-31", "2000-02-29", "1600-02-29", "2100-03-01"};
    for (String day : right) {
      int r = d.x.count(1);
      d.runs("berth load --date " + day, r);
      Desk.due("day " + day, d.x.value(r, 6), java.time.LocalDate.parse(day).toEpochDay());
      Desk.due("day " + day, d.print(r), "berth load --date=" + day);
    }
  }
}
