import java.time.LocalDate;

/** The bounds that ==== 3 of the document names, sentence by sentence: DAYS, SOURCES and BLAMES 12 to 17. */
public final class SourceBoundsTest {
  public static void main(String[] args) {
    dayForm();
    dayYears();
    dayMonths();
    dayNumbers();
    sources();
    settingKeys();
    onlyOfThePath();
    flagRows();
    countRows();
    otherRows();
    badRowFirst();
    need();
    bounds();
    listBounds();
    nots();
    withs();
    optionByOption();
    restNeed();
    Desk.end();
  }

  static Desk desk(String parts) {
    return new Desk().tool(0, "tool a " + parts + " end;");
  }

  static void day(Desk d, String day, boolean fits) {
    if (!fits) {
      d.blamed("a --d '" + day + "'", "11 2 0 0 -1 3");
      return;
    }
    int r = d.x.count(1);
    d.runs("a --d '" + day + "'", r);
    Desk.due("number of " + day, d.x.value(r, 0), LocalDate.parse(day).toEpochDay());
  }

  static void dayForm() {
    Desk.hold("A DAY: four digits, -, two, -, two");
    Desk d = desk("opt d day;");
    day(d, "2026-11-18", true);
    String[] none = {"", "2026", "2026-11", "2026-11-1", "2026-1-18", "226-11-18", "02026-11-18", "2026-11-018", "2026-011-18", "2026-11-18 ",
      " 2026-11-18", "2026/11/18", "2026-11/18", "2026/11-18", "20261118", "2026-11-1x", "2026-x1-18", "x026-11-18", "-026-11-18", "2026--1-18",
      "2026-11--8", "2026-11-18-", "+026-11-18", "2026-1 -18", "2026-11-/8", "2026-11-1:"};
    for (String day : none) day(d, day, false);
  }

  static void dayYears() {
    Desk.hold("the Gregorian calendar, years 1600 to 2399");
    Desk d = desk("opt d day;");
    day(d, "1599-12-31", false);
    day(d, "1600-01-01", true);
    day(d, "1600-01-02", true);
    day(d, "2399-12-30", true);
    day(d, "2399-12-31", true);
    day(d, "2400-01-01", false);
    day(d, "0000-01-01", false);
    day(d, "9999-12-31", false);
    day(d, "1600-02-29", true);
    day(d, "1700-02-29", false);
    day(d, "1800-02-29", false);
    day(d, "1900-02-29", false);
    day(d, "2000-02-29", true);
    day(d, "2100-02-29", false);
    day(d, "2396-02-29", true);
    day(d, "2399-02-29", false);
  }

  /** The first day, the last and the one behind it of every month of all years. */
  static void dayMonths() {
    Desk.hold("the Gregorian calendar: each month's ends");
    for (int year = 1600; year < 2400; year++) {
      Desk d = desk("opt d day;");
      for (int month = 1; month <= 12; month++) {
        if (month == 7) d = desk("opt d day;");
        LocalDate last = LocalDate.of(year, month, 1).plusMonths(1).minusDays(1);
        String head = LocalDate.of(year, month, 1).toString().substring(0, 8);
        day(d, head + "00", false);
        day(d, head + "01", true);
        day(d, last.toString(), true);
        day(d, head + (last.getDayOfMonth() + 1), false);
      }
      day(d, year + "-00-01", false);
      day(d, year + "-13-01", false);
      day(d, year + "-12-32", false);
      day(d, year + "-02-99", false);
      day(d, year + "-99-01", false);
    }
  }

  static void dayNumbers() {
    Desk.hold("As a number: days from 1970-01-01 on");
    Desk d = desk("opt d day;");
    String[] days = {"1969-12-31", "1970-01-01", "1970-01-02", "1600-01-01", "2399-12-31", "2000-02-29", "2000-03-01"};
    int[] numbers = {-1, 0, 1, -135140, 157053, 11016, 11017};
    for (int i = 0; i < days.length; i++) {
      d.runs("a --d=" + days[i], i);
      Desk.due("number of " + days[i], d.x.value(i, 0), numbers[i]);
    }
  }

  static String told(Desk d, String line, int option) {
    int r = d.x.count(1);
    d.runs(line, r);
    return d.x.source(r, option) + ":" + d.x.value(r, option);
  }

  static void sources() {
    Desk.hold("the ENVIRONMENT's row of the NAME behind env; else the SETTING; else the default");
    Desk d = desk("opt x int default 1 env e; opt y int default 5; opt z int env f;");
    Desk.due("default", told(d, "a", 0), "3:1");
    Desk.due("none", told(d, "a", 2), "4:0");
    d.puts(1, "a.x=2", 1);
    Desk.due("SETTING", told(d, "a", 0), "2:2");
    d.puts(0, "e=3", 1);
    Desk.due("ENVIRONMENT", told(d, "a", 0), "1:3");
    Desk.due("LINE", told(d, "a --x=4", 0), "0:4");
    d.x.clear(1);
    Desk.due("ENVIRONMENT", told(d, "a", 0), "1:3");
    d.x.clear(0);
    Desk.due("default", told(d, "a", 0), "3:1");
    d.puts(0, "x=7", 1);
    d.puts(0, "y=7", 1);
    Desk.due("not by its own NAME", told(d, "a", 0), "3:1");
    Desk.due("no env", told(d, "a", 1), "3:5");
    d.puts(1, "e=7", 1);
    d.puts(1, "a.e=7", 1);
    Desk.due("env is no SETTING", told(d, "a", 0), "3:1");
    d.puts(1, "a.z=0", 1);
    Desk.due("a 0 is told", told(d, "a", 2), "2:0");
    Desk e = desk("opt x int env s; opt y int env s;");
    e.puts(0, "s=6", 1);
    Desk.due("one row", told(e, "a", 0), "1:6");
    Desk.due("for two", told(e, "a", 1), "1:6");
  }

  static void settingKeys() {
    Desk.hold("the SETTING of the TOOL, the SUBS down to the OPTION's PLACE and the OPTION, with . between");
    Desk d = desk("opt w int; sub b opt x int; sub c opt y int; sub d opt z int; end; end; end;");
    String[] right = {"a.w=1", "a.b.x=2", "a.b.c.y=3", "a.b.c.d.z=4"};
    for (String row : right) d.puts(1, row, 1);
    for (int i = 0; i < 4; i++) Desk.due("option " + i, told(d, "a b c d", i), "2:" + (i + 1));
    Desk.due("of the TOOL alone", told(d, "a", 0), "2:1");
    d.x.clear(1);
    String[] others = {"w=1", "a.b.w=1", "b.x=2", "a.x=2", "a.b.c.x=2", "x=2", "a.c.y=3", "a.b.y=3", "c.y=3", "a.b.c.d=4", "a.b.c.z=4", "b.w=1"};
    for (String row : others) d.puts(1, row, 1);
    for (int i = 0; i < 4; i++) Desk.due("option " + i, told(d, "a b c d", i), "4:0");
  }

  static void onlyOfThePath() {
    Desk.hold("SOURCES of OPTIONS of the PATH that the LINE doesn't tell");
    Desk d = desk("opt w flag env e; sub b opt x int env f; end; sub c opt y int default 4; end;");
    d.puts(0, "f=bad", 1);
    d.puts(1, "a.c.y=bad", 1);
    d.puts(1, "a.b.y=bad", 1);
    d.runs("a", 0);
    d.blamed("a b", "12 -1 0 1 1 2");
    d.blamed("a c", "12 -1 0 2 2 2");
    d.runs("a b --x=5", 1);
    d.runs("a c --y=5", 2);
    Desk.due("not of the PATH", d.x.source(1, 2), -1);
    d.puts(0, "e=bad", 1);
    d.blamed("a b --x=5", "12 -1 0 0 1 3");
    d.runs("a --no-w", 3);
    Desk.due("LINE", d.x.source(3, 0), 0);
  }

  /** An option x with the row as its ENVIRONMENT, and then as its SETTING. */
  static void row(String sort, String row, String want) {
    for (int from = 0; from < 2; from++) {
      Desk d = desk("opt x " + sort + " env e;");
      d.puts(from, (from == 0 ? "e=" : "a.x=") + row, 1);
      if (want.isEmpty()) d.blamed("a", "12 -1 0 0 " + (from + 1) + " 1");
      else Desk.due("row " + row, told(d, "a", 0), (from + 1) + ":" + want);
    }
  }

  static void flagRows() {
    Desk.hold("A row of a flag is true or false");
    row("flag", "true", "1");
    row("flag", "false", "0");
    String[] none = {"", "0", "1", "True", "FALSE", "true ", " true", "tru", "truee", "falsetrue", "yes"};
    for (String text : none) row("flag", text, "");
  }

  static void countRows() {
    Desk.hold("of a count one or two digits, 1 to 20");
    for (int n = 0; n <= 99; n++) row("count", "" + n, n >= 1 && n <= 20 ? "" + n : "");
    for (int n = 0; n <= 9; n++) row("count", "0" + n, n >= 1 ? "" + n : "");
    String[] none = {"", "-1", "001", "010", "020", "100", "1 ", " 1", "x", "1x", "+1", "true"};
    for (String text : none) row("count", text, "");
  }

  static void otherRows() {
    Desk.hold("12: a row that can't be so (the OPTION, its SOURCE)");
    row("int", "2147483647", "2147483647");
    row("int", "-2147483648", "-2147483648");
    row("int", "0000000001", "1");
    String[] noInts = {"", "-", "2147483648", "-2147483649", "00000000001", " 1", "1 ", "1,2", "+1"};
    for (String text : noInts) row("int", text, "");
    row("text", "", "0");
    row("text", Desk.times("y", 60), "60");
    row("text", " ' \" \\ # = ", "11");
    row("day", "1600-01-01", "-135140");
    row("day", "2399-12-31", "157053");
    row("day", "1599-12-31", "");
    row("day", "2400-01-01", "");
    row("day", "", "");
    row("day", "2026-11-18 ", "");
    row("one(p,q)", "p", "0");
    row("one(p,q)", "q", "1");
    row("one(p,q)", "r", "");
    row("one(p,q)", "", "");
    row("one(p,q)", "p ", "");
    row("list", "1", "1");
    row("list", "1,2,3,4,5,6,7,8,9", "9");
    row("list", "1,2,3,4,5,6,7,8,9,10", "10");
    row("list", "1,2,3,4,5,6,7,8,9,10,11", "");
    row("list", "", "");
    row("list", "1,", "");
    row("list", "1, 2", "");
    row("list", "-2147483648,2147483647", "2");
    row("list", "2147483648", "");
  }

  static void badRowFirst() {
    Desk.hold("in their order");
    Desk d = desk("opt x int env e; opt y flag env f; opt z count; rest r int;");
    d.puts(1, "a.z=0", 1);
    d.blamed("a", "12 -1 0 2 2 1");
    d.puts(0, "f=0", 1);
    d.blamed("a", "12 -1 0 1 1 1");
    d.puts(1, "a.x=", 1);
    d.blamed("a", "12 -1 0 0 2 1");
    // the row goes ahead of the SETTING also when it can't be so
    d.puts(1, "a.y=true", 1);
    d.blamed("a --x=1", "12 -1 0 1 1 2");
    d.blamed("a --x=1 --y", "12 -1 0 2 2 3");
    d.runs("a --x=1 --y --z", 0);
    d.blamed("a q", "11 1 0 -1 -1 2");
  }

  static void need() {
    Desk.hold("13 need, and no SOURCE");
    String[] sorts = {"flag", "count", "int", "text", "day", "list", "one(p)"};
    String[] rows = {"false", "1", "0", "", "2000-01-01", "0", "p"};
    for (int i = 0; i < sorts.length; i++) {
      Desk d = desk("opt w int; opt x " + sorts[i] + " need env e;");
      d.blamed("a", "13 -1 0 1 -1 1");
      d.puts(0, "e=" + rows[i], 1);
      d.runs("a", 0);
      d.x.clear(0);
      d.puts(1, "a.x=" + rows[i], 1);
      d.runs("a", 1);
      d.x.clear(1);
      d.runs(i == 0 ? "a --no-x" : i == 1 ? "a --x" : "a --x=" + rows[i], 2);
      d.blamed("a --w=1", "13 -1 0 1 -1 2");
    }
    Desk d = desk("sub s opt x int need; end; sub t end;");
    d.runs("a", 0);
    d.runs("a t", 1);
    d.blamed("a s", "13 -1 0 0 -1 2");
  }

  static void bounds() {
    Desk.hold("14 an int beyond min, max");
    int[][] cases = {{5, 9}, {-9, -5}, {0, 0}, {-999999, 999999}};
    for (int[] one : cases) {
      Desk d = desk("opt x int min " + one[0] + " max " + one[1] + " env e;");
      for (int n = one[0] - 2; n <= one[0] + 1; n++) bound(d, n, n >= one[0] && n <= one[1]);
      for (int n = one[1] - 1; n <= one[1] + 2; n++) bound(d, n, n >= one[0] && n <= one[1]);
      d.x.clear(0);
      d.runs("a", d.x.count(1));
    }
    Desk min = desk("opt x int min 5;");
    min.runs("a --x=2147483647", 0);
    min.runs("a --x=5", 1);
    min.blamed("a --x=4", "14 -1 0 0 -1 2");
    min.blamed("a --x=-2147483648", "14 -1 0 0 -1 2");
    Desk max = desk("opt x int max 5;");
    max.runs("a --x=-2147483648", 0);
    max.runs("a --x=5", 1);
    max.blamed("a --x=6", "14 -1 0 0 -1 2");
    max.blamed("a --x=2147483647", "14 -1 0 0 -1 2");
    max.puts(1, "a.x=6", 1);
    max.blamed("a", "14 -1 0 0 -1 1");
    max.puts(1, "a.x=5", 1);
    max.runs("a", 2);
  }

  static void bound(Desk d, int n, boolean fits) {
    d.puts(0, "e=" + n, 1);
    String[] lines = {"a --x=" + n, "a"};
    for (int i = 0; i < 2; i++) {
      if (fits) d.runs(lines[i], d.x.count(1));
      else d.blamed(lines[i], "14 -1 0 0 -1 " + (2 - i));
    }
  }

  static void listBounds() {
    Desk.hold("or one of a list's, beyond min, max");
    Desk d = desk("opt x list min 5 max 9;");
    d.runs("a", 0);
    d.runs("a --x=5,9,7", 1);
    d.blamed("a --x=4,9,7", "14 -1 0 0 -1 2");
    d.blamed("a --x=5,10,7", "14 -1 0 0 -1 2");
    d.blamed("a --x=5,9,10", "14 -1 0 0 -1 2");
    d.blamed("a --x=5,5,5,5,5 --x=5,5,5,5,4", "14 -1 0 0 -1 3");
    d.runs("a --x=5,5,5,5,5 --x=5,5,5,5,5", 2);
    d.puts(1, "a.x=5,4", 1);
    d.blamed("a", "14 -1 0 0 -1 1");
    // an item of a LINE ahead is none of this one's
    d.runs("a --x=5", 3);
  }

  static void nots() {
    Desk.hold("15 it has a not whose OPTION is TOLD, as itself (TOLD: by LINE, ENVIRONMENT, SETTINGS)");
    Desk d = desk("opt x int default 1 env e not y; opt y int default 2 env f;");
    d.runs("a", 0);
    d.runs("a --x=1", 1);
    d.runs("a --y=1", 2);
    d.blamed("a --x=1 --y=1", "15 -1 0 0 -1 3");
    d.blamed("a --y=1 --x=1", "15 -1 0 0 -1 3");
    d.puts(0, "f=1", 1);
    d.runs("a", 3);
    d.blamed("a --x=1", "15 -1 0 0 -1 2");
    d.puts(0, "e=1", 1);
    d.blamed("a", "15 -1 0 0 -1 1");
    d.x.clear(0);
    d.puts(1, "a.x=1", 1);
    d.runs("a", 4);
    d.blamed("a --y=1", "15 -1 0 0 -1 2");
    d.puts(1, "a.y=1", 1);
    d.blamed("a", "15 -1 0 0 -1 1");
    Desk e = desk("opt x flag; opt y flag not x;");
    e.runs("a --x", 0);
    e.runs("a --y", 1);
    e.blamed("a --no-x --no-y", "15 -1 0 1 -1 3");
  }

  static void withs() {
    Desk.hold("16 a with whose OPTION isn't TOLD, but itself");
    Desk d = desk("opt x int default 1 env e with y; opt y int default 2 env f;");
    d.runs("a", 0);
    d.runs("a --y=1", 1);
    d.blamed("a --x=1", "16 -1 0 0 -1 2");
    d.runs("a --x=1 --y=1", 2);
    d.puts(0, "e=1", 1);
    d.blamed("a", "16 -1 0 0 -1 1");
    d.puts(0, "f=1", 1);
    d.runs("a", 3);
    d.x.clear(0);
    d.puts(1, "a.x=1", 1);
    d.blamed("a", "16 -1 0 0 -1 1");
    d.puts(1, "a.y=1", 1);
    d.runs("a", 4);
    Desk e = desk("opt x flag with y; opt y flag;");
    e.runs("a --no-x --no-y", 0);
    e.blamed("a --no-x", "16 -1 0 0 -1 2");
    Desk up = desk("opt y flag; sub s opt x flag with y; opt z flag not y; end;");
    up.runs("a", 0);
    up.blamed("a s --x", "16 -1 0 1 -1 3");
    up.runs("a s --x --y", 1);
    up.blamed("a s --y --z", "15 -1 0 2 -1 4");
  }

  static void optionByOption() {
    Desk.hold("Then OPTION by OPTION of the PATH, in order: 13, 14, 15, 16");
    Desk d = desk("opt w int max 5 not x with v; opt x int need max 5; opt v flag need; rest r text need;");
    d.blamed("a --w=6 --x=6", "14 -1 0 0 -1 3");
    d.blamed("a --w=5 --x=6", "15 -1 0 0 -1 3");
    d.blamed("a --w=5", "16 -1 0 0 -1 2");
    d.blamed("a --w=5 --v", "13 -1 0 1 -1 3");
    d.blamed("a", "13 -1 0 1 -1 1");
    d.blamed("a --x=6", "14 -1 0 1 -1 2");
    d.blamed("a --x=5", "13 -1 0 2 -1 2");
    d.blamed("a --x=5 --v", "17 -1 0 -1 -1 3");
    d.runs("a --x=5 --v q", 0);
    Desk e = desk("sub s opt x int need; end; opt y int need;");
    e.blamed("a s", "13 -1 0 0 -1 2");
    e.blamed("a", "13 -1 0 1 -1 1");
    // BLAME 12 of a later OPTION goes ahead of all these
    e.puts(1, "a.y=bad", 1);
    e.blamed("a s", "12 -1 0 1 2 2");
  }

  static void restNeed() {
    Desk.hold("Then 17: a rest with need that has no WORD (the OPTION NONE)");
    Desk d = desk("rest r text need; sub s rest q int need; end; sub t rest p int; end; sub u end;");
    d.blamed("a", "17 -1 0 -1 -1 1");
    d.blamed("a --", "17 -1 0 -1 -1 2");
    d.runs("a x", 0);
    d.runs("a ''", 1);
    d.runs("a -- --", 2);
    d.blamed("a s", "17 -1 0 -1 -1 2");
    d.runs("a s 0", 3);
    d.runs("a t", 4);
    d.runs("a u", 5);
  }
}
