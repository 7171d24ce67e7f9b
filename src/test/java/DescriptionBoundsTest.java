/** The bounds that ==== 1 of the document names, sentence by sentence: tokens, the form, and the FAULTS. */
public final class DescriptionBoundsTest {
  static final String[] WORDS = ("tool sub opt rest flag count int text day one list short need hidden min max default env not with end no").split(" ");
  static final String[] SORTS = {"flag", "count", "int", "text", "day", "list", "one(p,q)"};

  public static void main(String[] args) {
    size();
    blanks();
    names();
    wholes();
    texts();
    signs();
    words();
    form();
    sortsAndMarks();
    parts();
    places();
    faultPlaces();
    leastAndFirst();
    toolNames();
    subNames();
    optionNames();
    noNames();
    shorts();
    oneNames();
    twice();
    needAndDefault();
    whereBounds();
    whereDefault();
    shortLetters();
    minAndMax();
    defaults();
    defaultBounds();
    manyTools();
    manyOptions();
    manySubs();
    deepSubs();
    secondRest();
    ninthName();
    thirdLink();
    links();
    Desk.end();
  }

  /** A new desk takes it, whatever stands on the tape behind it. */
  static void fits(String text) {
    Desk d = new Desk();
    d.behind = 'z';
    d.tool(0, text);
  }

  /** An @ stands ahead of the token that is blamed. */
  static void faulty(String text, int fault) {
    int place = text.indexOf('@');
    Desk d = new Desk();
    d.behind = 'z';
    d.fault(text.substring(0, place) + text.substring(place + 1), fault, place);
    d.tool(0, "tool a end;");
  }

  static boolean isOneOf(String word, String... row) {
    for (String one : row) if (one.equals(word)) return true;
    return false;
  }

  static void size() {
    Desk.hold("at most 2,000 bytes on the TAPE");
    fits("tool a end;");
    fits("tool a" + Desk.times(" ", 1989) + "end;");
    fits("tool a" + Desk.times("\n", 1990) + "end;");
    faulty("tool a end" + Desk.times(" ", 1990) + "@", 1);
    faulty("tool a end;" + Desk.times(" ", 1988) + "@;", 1);
    faulty("@" + Desk.times(";", 2000), 1);
    Desk d = new Desk();
    d.feed("tool a" + Desk.times(" ", 1990) + "end;");
    d.feed("end;");
    Desk.due("what is more does not come", d.x.count(2), 2000);
    Desk.thrown("describe(2001)", () -> d.x.describe(2001), 1);
    Desk.due("all of it", d.x.describe(2000), 0);
  }

  static void blanks() {
    Desk.hold("bytes 32, 10 between");
    fits(" tool a end;");
    fits("\ntool\na\nend\n;\n");
    fits("  tool \n a\n\nend ; \n ");
    fits("tool a opt b one(p,q)short\"s\"default q;opt c int min 5max 5;end;");
    for (int b = 0; b < 256; b++) {
      if (b == 32 || b == 10) {
        fits((char) b + "tool" + (char) b + "a end;" + (char) b);
      } else if (b < 33 || b > 126) {
        faulty("tool a @" + (char) b + "end;", 1);
        faulty("@" + (char) b + "tool a end;", 1);
        faulty("tool a end;@" + (char) b, 1);
      }
    }
  }

  static void names() {
    Desk.hold("NAMES (a small letter, then small letters, digits, -, 10 in all at most, the last no -)");
    String[] right = {"a", "z", "aa", "a0", "a9", "z-9", "a-b", "a--b", "abcdefghi", "abcdefghij", "a--------9", "a123456789"};
    for (String name : right) fits("tool " + name + " end;");
    String[] none = {"abcdefghijk", "a123456789b", "a-", "a--", "abcdefghi-", "abcdefghij-"};
    for (String name : none) faulty("tool @" + name + " end;", 1);
    String[] begin = {"A", "0", "9a", "-a", "_", "`", "{", ".", ""};
    for (String name : begin) faulty("tool @" + name + ";", 1);
    // these end the NAME, and begin no token
    char[] within = {'A', 'Z', '_', '`', '{', '/', ':', '.', '=', '\t', 127};
    for (char sign : within) faulty("tool ab@" + sign + "c end;", 1);
  }

  static void wholes() {
    Desk.hold("WHOLES (perhaps - right ahead, 1 to 6 digits)");
    String[] right = {"0", "9", "-0", "-1", "12345", "123456", "-999999", "999999", "000000", "-000001"};
    for (String whole : right) fits("tool a opt x int max " + whole + "; end;");
    String[] none = {"1234567", "-1234567", "0000000", "-", "--1", "- 1", "+1", ".5"};
    for (String whole : none) faulty("tool a opt x int max @" + whole + "; end;", 1);
    faulty("tool a opt x int max 1@.5; end;", 1);
    faulty("tool a opt x int max 1@-5; end;", 1);
    Desk d = new Desk();
    d.tool(0, "tool a opt x int min -999999 max 999999; end;");
    d.runs("a --x=-999999", 0);
    d.runs("a --x=999999", 1);
    d.blamed("a --x=-1000000", "14 -1 0 0 -1 2");
    d.blamed("a --x=1000000", "14 -1 0 0 -1 2");
  }

  static void texts() {
    Desk.hold("TEXTS (\", 0 to 12 bytes 32 to 126 but \", \")");
    for (int n = 0; n <= 14; n++) {
      String text = "\"" + Desk.times("y", n) + "\"";
      if (n <= 12) fits("tool a opt x text default " + text + "; end;");
      else faulty("tool a opt x text default @" + text + "; end;", 1);
    }
    for (int b = 0; b < 256; b++) {
      if (b == '"') continue;
      String text = "\"" + (char) b + "\"";
      if (b >= 32 && b <= 126) fits("tool a opt x text default " + text + "; end;");
      else faulty("tool a opt x text default @" + text + "; end;", 1);
    }
    faulty("tool a opt x text default @\"abc; end;", 1);
    faulty("tool a opt x text default @\"", 1);
    faulty("tool a opt x text default @\"abc", 1);
    faulty("tool a opt x text default \"\"@\"; end;", 1);
    faulty("tool a opt x text default \"a\"@b\"; end;", 1);
  }

  static void signs() {
    Desk.hold("the signs ; ( ) ,");
    fits("tool a opt x one ( p , q ) ; end ;");
    for (int b = 33; b < 127; b++) {
      boolean begins = b == ';' || b == '(' || b == ')' || b == ',' || b == '"' || (b >= '0' && b <= '9') || (b >= 'a' && b <= 'z');
      if (!begins) {
        faulty("tool a @" + (char) b + " end;", 1);
        faulty("tool a end;@" + (char) b, 1);
      }
    }
    char[] signs = {'(', ')', ','};
    for (char sign : signs) {
      faulty("tool a @" + sign + " end;", 1);
      faulty("tool a end@" + sign + " end;", 1);
    }
  }

  static void words() {
    Desk.hold("WORDS, which are no NAMES");
    for (String word : WORDS) {
      faulty("tool @" + word + " end;", 1);
      faulty("tool a sub @" + word + " end; end;", 1);
      faulty("tool a opt @" + word + " flag; end;", 1);
      faulty("tool a rest @" + word + " int; end;", 1);
      faulty("tool a opt x one(@" + word + "); end;", 1);
      faulty("tool a opt x one(p,@" + word + "); end;", 1);
      faulty("tool a opt x flag env @" + word + "; end;", 1);
      faulty("tool a opt x flag not @" + word + "; end;", 1);
      faulty("tool a opt x flag with @" + word + "; end;", 1);
      faulty("tool a opt x one(p) default @" + word + "; end;", 1);
      fits("tool " + word + "s end;");
      fits("tool " + word + "9 end;");
      fits("tool x" + word + " end;");
      fits("tool " + word + "-x opt " + word + "0 flag; end;");
      String shorter = word.substring(0, word.length() - 1);
      if (!isOneOf(shorter, WORDS)) fits("tool " + shorter + " end;");
    }
  }

  // the tokens of a whole description, with blanks between
  static final String WHOLE = "tool a opt b one ( p , q ) short \"s\" default q env e not c with c ; opt c int min 1 max 9 need hidden ; "
      + "rest r text need ; sub s rest t int ; sub u end ; end ; end ;";

  static void form() {
    Desk.hold("TOOL: tool NAME { PART } end ; and the end");
    fits(WHOLE);
    String[] tokens = WHOLE.split(" ");
    StringBuilder ahead = new StringBuilder();
    for (int i = 0; i < tokens.length; i++) {
      String behind = WHOLE.substring(ahead.length());
      faulty(ahead + "@", 1);
      faulty(ahead + "@? " + behind, 1);
      if (i != 7 && i != 9) faulty(ahead + "@) " + behind, 1);
      if (i > 0) faulty(ahead + "@tool " + behind, 1);
      ahead.append(tokens[i]).append(' ');
    }
    faulty("tool a end;@;", 1);
    faulty("tool a end; @end;", 1);
    faulty("tool a end; @tool b end;", 1);
    faulty("tool a end @end;", 1);
    faulty("@a end;", 1);
    faulty("@\"tool\" a end;", 1);
    faulty("tool @\"a\" end;", 1);
    faulty("tool @5 end;", 1);
    faulty("@", 1);
    faulty("  \n@", 1);
  }

  static void sortsAndMarks() {
    Desk.hold("SORT: flag | count | int | text | day | list | one ( NAME { , NAME } )");
    for (String sort : SORTS) fits("tool a opt x " + sort + "; end;");
    for (String word : WORDS) {
      if (!isOneOf(word, "flag", "count", "int", "text", "day", "list", "one")) faulty("tool a opt x @" + word + "; end;", 1);
    }
    faulty("tool a opt x @; end;", 1);
    faulty("tool a opt x @name; end;", 1);
    faulty("tool a opt x one@; end;", 1);
    faulty("tool a opt x one(@); end;", 1);
    faulty("tool a opt x one(p@; end;", 1);
    faulty("tool a opt x one(p,@); end;", 1);
    faulty("tool a opt x one(@,p); end;", 1);
    faulty("tool a opt x one(p @q); end;", 1);
    faulty("tool a opt x one(@\"p\"); end;", 1);
    faulty("tool a opt x one(@5); end;", 1);
    faulty("tool a opt x one(p)@(q); end;", 1);
    faulty("tool a opt x flag@(q); end;", 1);
    fits("tool a opt x one(p); end;");
    Desk.hold("MARK: short TEXT | need | hidden | min WHOLE | max WHOLE | default VALUE | env NAME | not NAME | with NAME");
    for (String word : WORDS) {
      if (!isOneOf(word, "short", "need", "hidden", "min", "max", "default", "env", "not", "with")) {
        faulty("tool a opt x int @" + word + "; end;", 1);
      } else if (!isOneOf(word, "need", "hidden")) {
        faulty("tool a opt x int " + word + "@; end;", 1);
        faulty("tool a opt x int " + word + " @need; end;", 1);
        faulty("tool a opt x int " + word + " @(; end;", 1);
      }
    }
    faulty("tool a opt x int short @s; end;", 1);
    faulty("tool a opt x int short @5; end;", 1);
    faulty("tool a opt x int min @\"5\"; end;", 1);
    faulty("tool a opt x int max @five; end;", 1);
    faulty("tool a opt x int env @\"e\"; end;", 1);
    faulty("tool a opt x int env @5; end;", 1);
    faulty("tool a opt x int not @\"y\"; end;", 1);
    faulty("tool a opt x int with @5; end;", 1);
    faulty("tool a opt x int need @5; end;", 1);
    faulty("tool a opt x int hidden @y; end;", 1);
    faulty("tool a opt x int @name; end;", 1);
    faulty("tool a opt x int @,; end;", 1);
  }

  static void parts() {
    Desk.hold("PART: opt NAME SORT { MARK } ; | rest NAME ( text | int ) [ need ] ; | sub NAME { PART } end ;");
    fits("tool a opt x flag; end;");
    fits("tool a rest r text; end;");
    fits("tool a rest r int need; end;");
    fits("tool a sub s end; end;");
    for (String word : WORDS) {
      if (!isOneOf(word, "opt", "rest", "sub", "end")) faulty("tool a @" + word + "; end;", 1);
      if (!isOneOf(word, "text", "int")) faulty("tool a rest r @" + word + "; end;", 1);
      if (!word.equals("need")) faulty("tool a rest r int @" + word + "; end;", 1);
      if (!isOneOf(word, "opt", "rest", "sub", "end")) faulty("tool a sub s @" + word + "; end;", 1);
    }
    faulty("tool a rest r int need @need; end;", 1);
    faulty("tool a rest r @(int); end;", 1);
    faulty("tool a rest r int@,; end;", 1);
    faulty("tool a @name; end;", 1);
    faulty("tool a @; end;", 1);
    faulty("tool a opt x flag; @; end;", 1);
    faulty("tool a sub s@; end;", 1);
    faulty("tool a sub s end; end@", 1);
    faulty("tool a sub s end;@", 1);
  }

  static void places() {
    Desk.hold("PLACES: the TOOL is one, each SUB, in the PLACE where it stands, another");
    Desk d = new Desk();
    d.tool(0, "tool a sub s sub t end; end; sub t end; rest r text; end;");
    d.runs("a s t", 0);
    d.runs("a t", 1);
    Desk.due("SUBS of a s t", d.x.record(0, 1), 2);
    Desk.due("SUBS of a t", d.x.record(1, 1), 1);
    d.runs("a x", 2);
    Desk.due("SUBS of a x", d.x.record(2, 1), 0);
    d.blamed("a t s", "10 2 0 -1 -1 3");
    Desk.hold("OPTIONS are numbered in a TOOL from 0 on, as they stand");
    Desk e = new Desk();
    e.tool(0, "tool z opt q int; end;");
    e.tool(1, "tool a opt k int; sub s opt l int; sub t opt m int; end; opt n int; end; opt o int; end;");
    e.runs("a s t --k 10 --l 11 --m 12 --n 13 --o 14", 0);
    for (int i = 0; i < 5; i++) Desk.due("option " + i, e.x.value(0, i), 10 + i);
    Desk.due("option 5", e.x.source(0, 5), -1);
  }

  static void faultPlaces() {
    Desk.hold("at a token's first byte (the text's length at its end)");
    faulty("@tools a end;", 1);
    faulty("\n @;", 1);
    faulty("tool@", 1);
    faulty("tool   @", 1);
    faulty("tool a end\n@", 1);
    faulty("tool a   @flag end;", 1);
    faulty("tool a opt x text default @\"1234567890123\"; end;", 1);
    Desk.hold("its FAULT less 10");
    String[] ones = {"tool", "tool a opt x flag; opt x flag; end;", "tool a opt x flag min 1; end;", "tool a rest r int; rest s int; end;",
      "tool a opt x flag not y; end;"};
    for (int i = 0; i < 5; i++) Desk.due("describe " + ones[i], new Desk().describe(ones[i]), i - 9);
  }

  static void leastAndFirst() {
    Desk.hold("the first that is met from the left");
    faulty("tool a opt x flag @min 1; opt x flag ?", 3);
    faulty("tool a opt x flag; opt @x flag min 1 ?", 2);
    faulty("tool a rest r int; @rest r bad", 4);
    faulty("tool a opt x flag not y @? end;", 1);
    faulty("tool a opt x flag not y; opt @x flag; end;", 2);
    faulty("tool a opt x flag not y @hidden1; end;", 1);
    Desk.hold("of one token the least");
    Desk d = new Desk();
    for (int i = 0; i < 12; i++) d.tool(i, "tool t" + i + " end;");
    d.fault("tool t0 end;", 2, 5);
    d.fault("tool t12 end;", 4, 5);
    d.fault("tool flag end;", 1, 5);
    d.fault("tool", 1, 4);
    faulty("tool a opt x one(b,c,d,e,f,g,h,i,@b); end;", 2);
    faulty("tool a opt x one(b,c,d,e,f,g,h,i,@flag); end;", 1);
  }

  static void toolNames() {
    Desk.hold("2 NAME: of a TOOL that is there");
    Desk d = new Desk();
    d.tool(0, "tool a end;");
    d.tool(1, "tool b end;");
    d.fault("tool a end;", 2, 5);
    d.fault("tool b opt x flag; end;", 2, 5);
    d.tool(2, "tool aa end;");
    d.fault("tool c opt x flag; opt x flag; end;", 2, 23);
    d.tool(3, "tool c end;");
    d.puts(2, "d=a", 1);
    d.tool(4, "tool d sub a end; opt b flag; end;");
  }

  static void subNames() {
    Desk.hold("of a SUB that its PLACE has");
    faulty("tool a sub s end; sub @s end; end;", 2);
    faulty("tool a sub s end; sub t end; sub @s end; end;", 2);
    faulty("tool a sub s sub t end; sub @t end; end; end;", 2);
    fits("tool a sub s sub s sub s end; end; end; sub t sub s end; end; end;");
    fits("tool a sub a end; end;");
    fits("tool a opt s flag; rest t int; sub s end; sub t end; end;");
  }

  static void optionNames() {
    Desk.hold("of an OPTION or rest (one row of NAMES) that a PLACE of the PATH, or one within this PLACE, has");
    String[] kinds = {"opt @x flag;", "rest @x int;"};
    for (String later : kinds) {
      for (String kind : kinds) {
        String first = kind.replace("@", "");
        if (later != kind || later == kinds[0]) faulty("tool a " + first + later + " end;", 2);
        faulty("tool a " + first + " sub s " + later + " end; end;", 2);
        faulty("tool a " + first + " sub s sub t " + later + " end; end; end;", 2);
        faulty("tool a " + first + " sub s sub t sub u " + later + " end; end; end; end;", 2);
        faulty("tool a sub s " + first + " end; " + later + " end;", 2);
        faulty("tool a sub s sub t " + first + " end; end; " + later + " end;", 2);
        faulty("tool a sub s sub t " + first + " end; " + later + " end; end;", 2);
        String free = later.replace("@", "");
        fits("tool a sub s " + first + " end; sub t " + free + " end; end;");
        fits("tool a sub s sub t " + first + " end; end; sub u sub t " + free + " end; end; end;");
        fits("tool a sub s sub t " + first + " end; end; sub u " + free + " end; end;");
        fits("tool a sub s sub t " + first + " end; sub u " + free + " end; end; end;");
      }
    }
    fits("tool a opt a flag; sub x opt x flag; opt s flag; end; end;");
  }

  static void noNames() {
    Desk.hold("or that begins with no-");
    faulty("tool a opt @no-x flag; end;", 2);
    faulty("tool a opt @no-9 int; end;", 2);
    faulty("tool a opt @no--x flag; end;", 2);
    faulty("tool a rest @no-x text; end;", 2);
    faulty("tool a opt @no- flag; end;", 1);
    faulty("tool a opt @no flag; end;", 1);
    fits("tool a opt nox flag; opt n flag; opt n-o flag; opt non-x flag; rest no9 int; end;");
    fits("tool no-a sub no-b opt x one(no-c) default no-c env no-d; end; end;");
  }

  static void shorts() {
    Desk.hold("a short (at its TEXT) likewise");
    String first = "opt x flag short \"s\";";
    String later = "opt y int short @\"s\";";
    String free = "opt y int short \"s\";";
    faulty("tool a " + first + later + " end;", 2);
    faulty("tool a " + first + " sub t " + later + " end; end;", 2);
    faulty("tool a " + first + " sub t sub u " + later + " end; end; end;", 2);
    faulty("tool a sub t " + first + " end; " + later + " end;", 2);
    faulty("tool a sub t sub u " + first + " end; end; " + later + " end;", 2);
    fits("tool a sub t " + first + " end; sub u " + free + " end; end;");
    fits("tool a " + first + " opt y int short \"S\"; opt s int; end;");
  }

  static void oneNames() {
    Desk.hold("of one's NAMES, a second time");
    faulty("tool a opt x one(p,@p); end;", 2);
    faulty("tool a opt x one(p,q,r,@p); end;", 2);
    faulty("tool a opt x one(p,q,r,@r); end;", 2);
    fits("tool a opt x one(x,a,p); opt y one(x,a,p); end;");
  }

  static void twice() {
    Desk.hold("3 SORT: a MARK told twice (at it)");
    faulty("tool a opt x int short \"s\" @short \"t\"; end;", 3);
    faulty("tool a opt x int short \"s\" @short; end;", 3);
    faulty("tool a opt x int need @need; end;", 3);
    faulty("tool a opt x int hidden @hidden; end;", 3);
    faulty("tool a opt x int min 1 @min 2; end;", 3);
    faulty("tool a opt x int max 1 @max 2; end;", 3);
    faulty("tool a opt x int default 1 @default 1; end;", 3);
    faulty("tool a opt x int env e @env f; end;", 3);
    faulty("tool a opt x int env e hidden need @env; end;", 3);
    fits("tool a opt x int short \"s\" need hidden min 1 max 2 env e; opt y int short \"t\" need hidden min 1 max 2 env e; end;");
  }

  static void needAndDefault() {
    Desk.hold("need with default, default with need (at the later one)");
    String[] values = {"int", "1", "text", "\"\"", "day", "\"2000-01-01\"", "one(p)", "p"};
    for (int i = 0; i < values.length; i += 2) {
      faulty("tool a opt x " + values[i] + " need @default " + values[i + 1] + "; end;", 3);
      faulty("tool a opt x " + values[i] + " need hidden @default; end;", 3);
      faulty("tool a opt x " + values[i] + " default " + values[i + 1] + " @need; end;", 3);
    }
    fits("tool a opt x int need; opt y int default 1; end;");
  }

  static void whereBounds() {
    Desk.hold("min, max at others than int, list (at them)");
    for (String sort : SORTS) {
      boolean can = sort.equals("int") || sort.equals("list");
      if (can) {
        fits("tool a opt x " + sort + " min 1; end;");
        fits("tool a opt x " + sort + " max 1; end;");
      } else {
        faulty("tool a opt x " + sort + " @min 1; end;", 3);
        faulty("tool a opt x " + sort + " @max; end;", 3);
      }
    }
  }

  static void whereDefault() {
    Desk.hold("default at flag, count, list (at them)");
    faulty("tool a opt x flag @default 1; end;", 3);
    faulty("tool a opt x count @default 1; end;", 3);
    faulty("tool a opt x list @default 1; end;", 3);
    faulty("tool a opt x list @default; end;", 3);
    fits("tool a opt w int default 1; opt x text default \"1\"; opt y day default \"2000-01-01\"; opt z one(p) default p; end;");
  }

  static void shortLetters() {
    Desk.hold("a short that isn't one letter a to z, A to Z");
    for (int b = 32; b < 127; b++) {
      if (b == '"') continue;
      boolean letter = (b >= 'a' && b <= 'z') || (b >= 'A' && b <= 'Z');
      if (letter) fits("tool a opt x flag short \"" + (char) b + "\"; end;");
      else faulty("tool a opt x flag short @\"" + (char) b + "\"; end;", 3);
    }
    faulty("tool a opt x flag short @\"\"; end;", 3);
    faulty("tool a opt x flag short @\"ab\"; end;", 3);
    faulty("tool a opt x flag short @\"a \"; end;", 3);
    faulty("tool a opt x flag short @\"-a\"; end;", 3);
  }

  static void minAndMax() {
    Desk.hold("a min above a max (at the later one)");
    String[] sorts = {"int", "list"};
    for (String sort : sorts) {
      fits("tool a opt x " + sort + " min 4 max 5; end;");
      fits("tool a opt x " + sort + " min 5 max 5; end;");
      faulty("tool a opt x " + sort + " min 5 max @4; end;", 3);
      fits("tool a opt x " + sort + " max 5 min 4; end;");
      fits("tool a opt x " + sort + " max 5 min 5; end;");
      faulty("tool a opt x " + sort + " max 4 min @5; end;", 3);
      faulty("tool a opt x " + sort + " max -5 hidden min @-4; end;", 3);
      fits("tool a opt x " + sort + " min -5 max -5; end;");
    }
  }

  static void defaults() {
    Desk.hold("a default that is no WHOLE for int, no TEXT for text, no TEXT of a DAY for day, none of the NAMES for one");
    fits("tool a opt x int default 0; end;");
    faulty("tool a opt x int default @\"0\"; end;", 3);
    faulty("tool a opt x int default @name; end;", 3);
    faulty("tool a opt x int default @1234567; end;", 1);
    fits("tool a opt x text default \"\"; end;");
    faulty("tool a opt x text default @0; end;", 3);
    faulty("tool a opt x text default @name; end;", 3);
    faulty("tool a opt x day default @2000; end;", 3);
    faulty("tool a opt x day default @name; end;", 3);
    String[] days = {"1600-01-01", "2399-12-31", "2000-02-29", "1969-12-31"};
    for (String day : days) fits("tool a opt x day default \"" + day + "\"; end;");
    String[] none = {"", "1599-12-31", "2400-01-01", "1900-02-29", "2000-2-29", "2000-02-30", "2000-02-29 ", " 2000-02-29", "20000-02-29"};
    for (String day : none) faulty("tool a opt x day default @\"" + day + "\"; end;", 3);
    fits("tool a opt x one(p,q) default p; end;");
    fits("tool a opt x one(p,q) default q; end;");
    faulty("tool a opt x one(p,q) default @r; end;", 3);
    faulty("tool a opt x one(p,q) default @x; end;", 3);
    faulty("tool a opt x one(p,q) default @pq; end;", 3);
    faulty("tool a opt x one(p,q) default @\"p\"; end;", 3);
    faulty("tool a opt x one(p,q) default @0; end;", 3);
  }

  static void defaultBounds() {
    Desk.hold("or beyond min, max (told ahead)");
    fits("tool a opt x int min 5 default 5; end;");
    fits("tool a opt x int min 5 default 6; end;");
    faulty("tool a opt x int min 5 default @4; end;", 3);
    fits("tool a opt x int max 5 default 5; end;");
    fits("tool a opt x int max 5 default 4; end;");
    faulty("tool a opt x int max 5 default @6; end;", 3);
    faulty("tool a opt x int min -1 max 1 default @2; end;", 3);
    faulty("tool a opt x int min -1 max 1 default @-2; end;", 3);
    Desk.hold("a min or max by which a default ahead is beyond");
    fits("tool a opt x int default 5 min 5; end;");
    fits("tool a opt x int default 5 min 4; end;");
    faulty("tool a opt x int default 5 min @6; end;", 3);
    fits("tool a opt x int default 5 max 5; end;");
    fits("tool a opt x int default 5 max 6; end;");
    faulty("tool a opt x int default 5 max @4; end;", 3);
    faulty("tool a opt x int default 0 min @1; end;", 3);
    faulty("tool a opt x int min 1 default 2 max @1; end;", 3);
    fits("tool a opt x int min 1 default 2 max 2; end;");
  }

  static void manyTools() {
    Desk.hold("4 MANY: a 13th TOOL (at its NAME)");
    Desk d = new Desk();
    for (int i = 0; i < 12; i++) d.tool(i, "tool t" + i + " end;");
    d.fault("tool more end;", 4, 5);
    d.fault(" tool  more ?", 4, 7);
    Desk.due("TOOLS", d.x.count(0), 12);
    d.runs("t11", 0);
  }

  static String options(int first, int behind) {
    StringBuilder all = new StringBuilder();
    for (int i = first; i < behind; i++) all.append("opt o").append(i).append(" flag; ");
    return all.toString();
  }

  static void manyOptions() {
    Desk.hold("a 41st OPTION of a TOOL (at opt)");
    fits("tool a " + options(0, 39) + "end;");
    fits("tool a " + options(0, 40) + "end;");
    faulty("tool a " + options(0, 40) + "@opt o40 flag; end;", 4);
    faulty("tool a " + options(0, 40) + "@opt o0 ?", 4);
    fits("tool a sub s " + options(0, 20) + "end; sub t " + options(0, 20) + "end; end;");
    faulty("tool a sub s " + options(0, 20) + "end; sub t " + options(0, 20) + "@opt x flag; end; end;", 4);
    faulty("tool a sub s " + options(0, 20) + "end; sub t " + options(0, 20) + "end; @opt x flag; end;", 4);
    Desk d = new Desk();
    d.tool(0, "tool a " + options(0, 40) + "end;");
    d.tool(1, "tool b " + options(0, 40) + "end;");
    d.runs("b --o39", 0);
    Desk.due("the last one", d.x.value(0, 39), 1);
    Desk.due("behind the last one", d.x.source(0, 40), -1);
  }

  static String subs(int first, int behind) {
    StringBuilder all = new StringBuilder();
    for (int i = first; i < behind; i++) all.append("sub s").append(i).append(" end; ");
    return all.toString();
  }

  static void manySubs() {
    Desk.hold("a 17th SUB of a TOOL (at sub)");
    fits("tool a " + subs(0, 15) + "end;");
    fits("tool a " + subs(0, 16) + "end;");
    faulty("tool a " + subs(0, 16) + "@sub s16 end; end;", 4);
    faulty("tool a " + subs(0, 16) + "@sub s0 ?", 4);
    fits("tool a sub p " + subs(0, 7) + "end; sub q " + subs(0, 7) + "end; end;");
    faulty("tool a sub p " + subs(0, 7) + "end; sub q " + subs(0, 7) + "@sub s7 end; end; end;", 4);
    Desk d = new Desk();
    d.tool(0, "tool a " + subs(0, 16) + "end;");
    d.tool(1, "tool b " + subs(0, 16) + "end;");
    d.runs("b s15", 0);
    Desk.due("its SUBS", d.x.record(0, 1), 1);
  }

  static void deepSubs() {
    Desk.hold("a PLACE in four others (at sub)");
    fits("tool a sub b sub c end; end; end;");
    fits("tool a sub b sub c sub d end; end; end; end;");
    faulty("tool a sub b sub c sub d @sub e end; end; end; end; end;", 4);
    faulty("tool a sub b sub c sub d @sub ?", 4);
    fits("tool a sub b sub c sub d end; sub e end; end; sub f sub g end; end; end; end;");
    faulty("tool a sub b sub c sub d end; sub e end; end; sub f sub g @sub h end; end; end; end; end;", 4);
    Desk d = new Desk();
    d.tool(0, "tool a sub b sub c sub d opt x flag; end; end; end; end;");
    d.runs("a b c d --x", 0);
    Desk.due("its SUBS", d.x.record(0, 1), 3);
  }

  static void secondRest() {
    Desk.hold("a second rest of a PLACE (at rest)");
    faulty("tool a rest r int; @rest s int; end;", 4);
    faulty("tool a rest r int; @rest r ?", 4);
    faulty("tool a rest r int; sub s end; @rest t int; end;", 4);
    faulty("tool a sub s rest r int; @rest t int; end; end;", 4);
    fits("tool a rest r int; sub s rest t int; sub u rest v int; end; end; sub w rest t int; end; end;");
  }

  static void ninthName() {
    Desk.hold("a ninth NAME of one");
    fits("tool a opt x one(b,c,d,e,f,g,h); end;");
    fits("tool a opt x one(b,c,d,e,f,g,h,i); end;");
    faulty("tool a opt x one(b,c,d,e,f,g,h,i,@j); end;", 4);
    fits("tool a opt x one(b,c,d,e,f,g,h,i); opt y one(b,c,d,e,f,g,h,i) default i; end;");
    Desk d = new Desk();
    d.tool(0, "tool a opt x one(b,c,d,e,f,g,h,i); end;");
    d.runs("a --x i", 0);
    Desk.due("the eighth", d.x.value(0, 0), 7);
  }

  static void thirdLink() {
    Desk.hold("a third not or with of an OPTION (these two may be told twice; at it)");
    String others = " opt p flag; opt q flag; opt r flag; end;";
    fits("tool a opt x flag not p;" + others);
    fits("tool a opt x flag not p not q;" + others);
    fits("tool a opt x flag not p not p;" + others);
    faulty("tool a opt x flag not p not q @not r;" + others, 4);
    faulty("tool a opt x flag not p not p @not ?" + others, 4);
    fits("tool a opt x flag with p with q;" + others);
    faulty("tool a opt x flag with p with q @with r;" + others, 4);
    fits("tool a opt x flag not p with q not r with r;" + others);
    faulty("tool a opt x flag not p with q not r with r hidden @not q;" + others, 4);
    fits("tool a opt x flag not p not q; opt y flag not p not q;" + others);
    // two of both at each of 40 OPTIONS
    StringBuilder all = new StringBuilder("tool a ");
    for (int i = 0; i < 40; i++) {
      String next = "o" + (i + 1) % 40;
      all.append("opt o" + i + " flag not " + next + " not " + next + " with " + next + " with " + next + ";");
    }
    fits(all + "end;");
    faulty(all.substring(0, all.length() - 3) + "@o99;end;", 5);
    Desk d = new Desk();
    d.tool(0, "tool a opt x flag not p not q with r with s; opt p flag; opt q flag; opt r flag; opt s flag; end;");
    d.runs("a --x --r --s", 0);
    d.blamed("a --x --r --s --q", "15 -1 0 0 -1 5");
    d.blamed("a --x --r --s --p", "15 -1 0 0 -1 5");
    d.blamed("a --x --r", "16 -1 0 0 -1 3");
    d.blamed("a --x --s", "16 -1 0 0 -1 3");
  }

  static void links() {
    Desk.hold("5 the first NAME behind a not, with that is no OPTION of the OPTION's PATH, or itself (at it)");
    String[] marks = {"not ", "with "};
    for (String mark : marks) {
      faulty("tool a opt x flag " + mark + "@x; end;", 5);
      faulty("tool a opt x flag " + mark + "@y; end;", 5);
      faulty("tool a opt x flag " + mark + "@a; end;", 5);
      faulty("tool a opt x flag " + mark + "@r; rest r int; end;", 5);
      faulty("tool a opt x flag " + mark + "@s; sub s end; end;", 5);
      faulty("tool a opt x flag " + mark + "@y; sub s opt y flag; end; end;", 5);
      faulty("tool a sub s opt x flag " + mark + "@y; end; sub t opt y flag; end; end;", 5);
      fits("tool a opt x flag " + mark + "y; opt y flag; end;");
      fits("tool a opt y flag; opt x flag " + mark + "y; end;");
      fits("tool a opt y flag; sub s opt x flag " + mark + "y; end; end;");
      fits("tool a sub s sub t opt x flag " + mark + "y; end; end; opt y flag; end;");
      faulty("tool a opt x flag " + mark + "y " + mark + "@q; opt y flag " + mark + "p; end;", 5);
      faulty("tool a sub s opt y flag " + mark + "@p; end; opt x flag " + mark + "q; end;", 5);
    }
    faulty("tool a opt x flag with @p not q; end;", 5);
    faulty("tool a opt x flag not y with @p not q; opt y flag; end;", 5);
    Desk.hold("Then, at the text's end");
    faulty("tool a opt x flag not q; rest r@;", 1);
    faulty("tool a opt x flag not q; end@", 1);
    faulty("tool a opt x flag not q; end; @;", 1);
    faulty("tool a opt x flag not q; rest r int; @rest s int; end;", 4);
  }
}
