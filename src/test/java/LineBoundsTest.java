/** The bounds that ==== 2 of the document names, sentence by sentence: LINES, ALIASES and BLAMES 1 to 11. */
public final class LineBoundsTest {
  static final String TOOL = "tool a opt num int short \"n\"; opt cnt count short \"c\"; opt flg flag short \"f\"; opt txt text short \"t\"; "
      + "opt lst list short \"l\"; opt who one(ann,ben) short \"w\"; opt dat day short \"d\"; rest r text; "
      + "sub s opt own int; rest q int; sub deep sub last end; end; end; sub bare end; end;";

  public static void main(String[] args) {
    size();
    blanks();
    comments();
    single();
    doubled();
    backslashes();
    bytes();
    notClosed();
    longWords();
    manyWords();
    aliases();
    aliasAgain();
    aliasWords();
    noWordNoTool();
    places();
    dashes();
    longNames();
    negations();
    letters();
    switches();
    values();
    noOption();
    noValue();
    secondTime();
    noRest();
    ints();
    oneAndText();
    lists();
    restInts();
    wordByWord();
    Desk.end();
  }

  static Desk desk() {
    return new Desk().tool(0, TOOL);
  }

  static void cut(String text, String words) {
    Desk d = desk();
    d.behind = '\'';
    d.run(text);
    Desk.due("WORDS of " + text, d.words(), words);
  }

  static void blamed(String text, String blames) {
    Desk d = desk();
    d.behind = '\'';
    d.blamed(text, blames);
  }

  static void runs(String text) {
    Desk d = desk();
    d.behind = '\'';
    d.runs(text, 0);
  }

  static void printed(String text, String want) {
    Desk d = desk();
    d.runs(text, 0);
    Desk.due("print of " + text, d.print(0), want);
  }

  static void size() {
    Desk.hold("LINES, at most 400 bytes");
    for (int n = 398; n <= 400; n++) {
      runs(Desk.times(" ", n - 1) + "a");
      runs("a" + Desk.times("\n", n - 1));
      blamed("a" + Desk.times(" ", n - 2) + "'", "1 -1 " + (n - 1) + " -1 -1 0");
    }
    Desk d = desk();
    d.feed(Desk.times(" ", 399) + "a" + Desk.times(" ", 20));
    Desk.thrown("run(401)", () -> d.x.run(401), 1);
    Desk.thrown("ends(401)", () -> d.x.ends(401), 1);
    Desk.due("run(400)", d.x.run(400), 0);
  }

  static void blanks() {
    Desk.hold("blanks (32, 10) part them");
    cut("a b\nc", "a|b|c");
    cut(" \n a \n\n b \n", "a|b");
    cut("a", "a");
    cut("  ", "");
    blamed("a\tb", "1 -1 1 -1 -1 0");
    blamed("a\rb", "1 -1 1 -1 -1 0");
    blamed(" \u001f", "1 -1 1 -1 -1 0");
  }

  static void comments() {
    Desk.hold("a # where a WORD would begin ends the LINE");
    cut("#", "");
    cut("  #a b", "");
    cut("a #b c", "a");
    cut("a\n#b\nc", "a");
    cut("a # 'b \"c \\", "a");
    cut("a b#c #d", "a|b#c");
    cut("a b# c", "a|b#|c");
    cut("a '#' \"#\" \\#", "a|#|#|#");
    cut("a ''#", "a|#");
  }

  static void single() {
    Desk.hold("' up to the next ': what stands between, as it is");
    cut("a ''", "a|");
    cut("a 'b'", "a|b");
    cut("a 'b c\nd'", "a|b c\nd");
    cut("a '\\'", "a|\\");
    cut("a 'b\\'c", "a|b\\c");
    cut("a '\"' 'b\\\\'", "a|\"|b\\\\");
    cut("a b'c'd''e", "a|bcde");
    cut("''", "");
    Desk d = desk();
    d.blamed("''", "5 0 0 -1 -1 1");
  }

  static void doubled() {
    Desk.hold("\" up to the next \" that no \\ stands ahead of: what stands between, but \\ and another byte is that byte");
    cut("a \"\"", "a|");
    cut("a \"b c\nd\"", "a|b c\nd");
    cut("a \"'\" \"#\"", "a|'|#");
    cut("a \"b\\\"c\"", "a|b\"c");
    cut("a \"\\\"\"", "a|\"");
    cut("a \"\\\\\" b", "a|\\|b");
    cut("a \"\\n\\ \\'\\\n\"", "a|n '\n");
    cut("a b\"c\"d\"\"e'f'", "a|bcdef");
  }

  static void backslashes() {
    Desk.hold("\\ and another byte elsewhere: that byte");
    cut("a \\b", "a|b");
    cut("a \\\\", "a|\\");
    cut("a \\ ", "a| ");
    cut("a \\\n", "a|\n");
    cut("a \\'b c\\\"", "a|'b|c\"");
    cut("a b\\ c", "a|b c");
    cut("\\a", "a");
    Desk.hold("a \\ at the LINE's end (at it)");
    blamed("a b\\", "1 -1 3 -1 -1 0");
    blamed("\\", "1 -1 0 -1 -1 0");
    blamed("a \\\\\\", "1 -1 4 -1 -1 0");
    runs("a # \\");
    runs("a '\\'");
  }

  static void bytes() {
    Desk.hold("Bytes below 32 but 10, and above 126, are BLAME 1 wherever they would come to a WORD");
    for (int b = 0; b < 256; b++) {
      String sign = "" + (char) b;
      boolean bad = (b < 32 && b != 10) || b > 126;
      runs("a # " + sign);
      runs("a #" + sign);
      if (bad) {
        blamed("a " + sign, "1 -1 2 -1 -1 0");
        blamed("a b" + sign, "1 -1 3 -1 -1 0");
        blamed(sign, "1 -1 0 -1 -1 0");
        blamed("a '" + sign + "'", "1 -1 3 -1 -1 0");
        blamed("a \"" + sign + "\"", "1 -1 3 -1 -1 0");
        blamed("a \"\\" + sign + "\"", "1 -1 4 -1 -1 0");
        blamed("a \\" + sign, "1 -1 3 -1 -1 0");
      } else {
        cut("a \\" + sign, "a|" + sign);
        cut("a \"\\" + sign + "\"", "a|" + sign);
        if (b != '\'') cut("a '" + sign + "'", "a|" + sign);
        if (b != '"' && b != '\\') cut("a \"" + sign + "\"", "a|" + sign);
      }
    }
  }

  static void notClosed() {
    Desk.hold("a ' or \" that is not closed (at it)");
    blamed("'", "1 -1 0 -1 -1 0");
    blamed("\"", "1 -1 0 -1 -1 0");
    blamed("a b'c", "1 -1 3 -1 -1 0");
    blamed("a b\"c", "1 -1 3 -1 -1 0");
    blamed("a '' '", "1 -1 5 -1 -1 0");
    blamed("a 'b''c", "1 -1 5 -1 -1 0");
    blamed("a 'b\"c", "1 -1 2 -1 -1 0");
    blamed("a \"b'c", "1 -1 2 -1 -1 0");
    blamed("a \"b\\\"", "1 -1 2 -1 -1 0");
    blamed("a \"b\\", "1 -1 2 -1 -1 0");
    runs("a 'b'");
    runs("a \"b\\\\\"");
  }

  static void longWords() {
    Desk.hold("2 a WORD of more than 40 bytes (at its begin)");
    for (int n = 39; n <= 41; n++) {
      String long1 = Desk.times("b", n);
      String[] forms = {long1, "'" + long1 + "'", "\"" + long1 + "\"", Desk.times("\\b", n), "''" + long1, Desk.times("'b'", n),
        Desk.times("\"\\b\"", 5) + Desk.times("b", n - 5)};
      for (String form : forms) {
        if (n <= 40) {
          cut("a " + form, "a|" + long1);
        } else {
          blamed("a " + form, "2 -1 2 -1 -1 0");
          blamed("a " + form + " '", "2 -1 2 -1 -1 0");
          blamed(form, "2 -1 0 -1 -1 0");
        }
      }
    }
    Desk.hold("the byte's place, from the left");
    String forty = Desk.times("b", 40);
    blamed("a '" + forty + "c", "2 -1 2 -1 -1 0");
    blamed("a \"" + forty + "c", "2 -1 2 -1 -1 0");
    blamed("a '" + forty, "1 -1 2 -1 -1 0");
    blamed("a " + forty + "\\", "1 -1 42 -1 -1 0");
    blamed("a " + forty + "c\\", "2 -1 2 -1 -1 0");
    blamed("a " + forty + "'", "1 -1 42 -1 -1 0");
    blamed("a b\t" + forty, "1 -1 3 -1 -1 0");
    blamed("a " + forty + "c\t", "2 -1 2 -1 -1 0");
  }

  static void manyWords() {
    Desk.hold("a 61st WORD");
    for (int n = 59; n <= 61; n++) {
      Desk d = desk();
      String line = "a" + Desk.times(" b", n - 1);
      if (n <= 60) {
        d.runs(line, 0);
        Desk.due("WORDS", d.x.blame(5), n);
        Desk.due("REST WORDS", d.x.record(0, 2), n - 1);
        Desk.due("the last one", d.x.word(n - 1, 0), 'b');
        Desk.due("behind the last one", d.x.word(n, 0), -1);
      } else {
        d.blamed(line, "2 -1 120 -1 -1 0");
        d.blamed(line + " '", "2 -1 120 -1 -1 0");
        d.blamed(line.replace(" b", "  b"), "2 -1 180 -1 -1 0");
      }
    }
    runs("a" + Desk.times(" b", 59) + "  ");
    runs("a" + Desk.times(" b", 59) + " # c d");
    blamed("a" + Desk.times(" b", 59) + " ''", "2 -1 120 -1 -1 0");
    blamed("a" + Desk.times(" b", 59) + " 'c", "2 -1 120 -1 -1 0");
    blamed("a" + Desk.times(" b", 59) + "'c", "1 -1 119 -1 -1 0");
    blamed(Desk.times("''", 1) + Desk.times(" ''", 60), "2 -1 180 -1 -1 0");
  }

  static void aliases() {
    Desk.hold("the first WORD, if it is an ALIAS's NAME, is that ALIAS's WORDS instead; and again");
    Desk d = desk();
    d.puts(2, "k=a x", 1);
    d.puts(2, "kk=k y", 1);
    d.puts(2, "none=", 1);
    d.puts(2, "word='a' 'b c' # d", 1);
    d.runs("k", 0);
    Desk.due("once", d.words(), "a|x");
    d.runs("kk z", 1);
    Desk.due("twice", d.words(), "a|x|y|z");
    d.runs("none kk", 2);
    Desk.due("the next WORD is the first then", d.words(), "a|x|y");
    d.runs("a k", 3);
    Desk.due("not the second", d.words(), "a|k");
    d.runs("\\k", 4);
    Desk.due("as it is cut", d.words(), "a|x");
    d.runs("word e", 5);
    Desk.due("cut at once", d.words(), "a|b c|e");
    d.blamed("K", "5 0 0 -1 -1 1");
    d.blamed("kkk", "5 0 0 -1 -1 1");
    d.blamed("none", "4 -1 0 -1 -1 0");
    d.blamed("none none", "3 0 0 -1 -1 1");
    // the ALIAS goes ahead of a TOOL with its NAME
    d.puts(2, "a=a", 1);
    d.blamed("a", "3 0 0 -1 -1 1");
  }

  static void aliasAgain() {
    Desk.hold("3: one that was put in already in this LINE (WORD 0)");
    Desk d = desk();
    d.puts(2, "k=k", 1);
    d.puts(2, "p=q 1", 1);
    d.puts(2, "q=p 2", 1);
    d.puts(2, "o=", 1);
    d.blamed("k x", "3 0 0 -1 -1 2");
    d.blamed("p 3", "3 0 0 -1 -1 4");
    Desk.due("WORDS then", d.words(), "p|2|1|3");
    d.blamed("q", "3 0 0 -1 -1 3");
    d.blamed("o o", "3 0 0 -1 -1 1");
    d.blamed("o k", "3 0 0 -1 -1 1");
    d.blamed("o", "4 -1 0 -1 -1 0");
    d.puts(2, "k=a", 1);
    d.runs("k k", 0);
    d.runs("o k", 1);
    d.runs("o k k", 2);
    for (int last = 0; last < 2; last++) {
      // all twenty ALIASES one behind the other: to a TOOL, or round to the first one
      Desk e = desk();
      for (int i = 0; i < 19; i++) e.puts(2, "k" + i + "=k" + (i + 1) + " x", 1);
      e.puts(2, last == 0 ? "k19=a" : "k19=k0", 1);
      if (last == 0) e.runs("k0", 0);
      else e.blamed("k0", "3 0 0 -1 -1 20");
      Desk.due("WORDS", e.x.blame(5), 20);
    }
  }

  static void aliasWords() {
    Desk.hold("2 (place 0) if there are more than 60 WORDS so");
    Desk d = desk();
    d.puts(2, "k=a x", 1);
    d.runs("k" + Desk.times(" y", 57), 0);
    Desk.due("59 WORDS", d.x.blame(5), 59);
    d.runs("k" + Desk.times(" y", 58), 1);
    Desk.due("60 WORDS", d.x.blame(5), 60);
    d.blamed("k" + Desk.times(" y", 59), "2 -1 0 -1 -1 0");
    Desk.due("no WORD of 2", d.x.word(0, 0), -1);
    d.puts(2, "o=", 1);
    d.runs("o" + " a" + Desk.times(" y", 58), 2);
    Desk.due("59 WORDS", d.x.blame(5), 59);
    Desk e = desk();
    e.puts(2, "m=a" + Desk.times(" y", 28), 1);
    e.puts(2, "l=m" + Desk.times(" z", 28), 1);
    e.runs("l 1 2 3", 0);
    Desk.due("60 WORDS by two ALIASES", e.x.blame(5), 60);
    e.blamed("l 1 2 3 4", "2 -1 0 -1 -1 0");
    // told as soon as there are more
    e.puts(2, "k=k" + Desk.times(" z", 28), 1);
    e.blamed("k" + Desk.times(" y", 32), "2 -1 0 -1 -1 0");
    e.blamed("k" + Desk.times(" y", 31), "3 0 0 -1 -1 60");
  }

  static void noWordNoTool() {
    Desk.hold("4 there is no WORD");
    blamed("", "4 -1 0 -1 -1 0");
    blamed(" \n ", "4 -1 0 -1 -1 0");
    blamed("#", "4 -1 0 -1 -1 0");
    Desk.hold("5 the first one is no TOOL's NAME");
    blamed("b", "5 0 0 -1 -1 1");
    blamed("aa --x 'y z'", "5 0 0 -1 -1 3");
    blamed("A", "5 0 0 -1 -1 1");
    blamed("s a", "5 0 0 -1 -1 2");
    blamed("''", "5 0 0 -1 -1 1");
    blamed("-- a", "5 0 0 -1 -1 2");
    Desk d = new Desk();
    d.blamed("a", "5 0 0 -1 -1 1");
    d.tool(0, "tool a end;");
    d.runs("a", 0);
  }

  static void place(String text, int subs, int rest) {
    Desk d = desk();
    d.runs(text, 0);
    Desk.due("SUBS of " + text, d.x.record(0, 1), subs);
    Desk.due("REST WORDS of " + text, d.x.record(0, 2), rest);
  }

  static void places() {
    Desk.hold("PLACE: the TOOL; as long as the next WORD is the NAME of a SUB of the PLACE, that");
    place("a", 0, 0);
    place("a s", 1, 0);
    place("a s deep", 2, 0);
    place("a s deep last", 3, 0);
    place("a deep", 0, 1);
    place("a a", 0, 1);
    place("a b s", 0, 2);
    place("a -f s", 0, 1);
    place("a -- s", 0, 1);
    place("a S", 0, 1);
    place("a 's'", 1, 0);
    place("a s 5", 1, 1);
    blamed("a s s", "11 2 0 -1 -1 3");
    blamed("a s deep last last", "10 4 0 -1 -1 5");
  }

  static void dashes() {
    Desk.hold("behind a WORD -- alone: a REST WORD. --: that");
    printed("a --", "a");
    printed("a -- --", "a -- --");
    printed("a -- -f --flg --num=x -", "a -- -f --flg '--num=x' -");
    printed("a x -- y", "a -- x y");
    printed("a --txt -- -f", "a --flg --txt=--");
    printed("a -t -- -f", "a --flg --txt=--");
    Desk.hold("All else: a REST WORD");
    printed("a - -1 -= -'' '' x=y", "a -- - -1 '-=' - '' 'x=y'");
    printed("a -@ -[ '-`' '-{' -9", "a -- '-@' '-[' '-`' '-{' -9");
  }

  static void longNames() {
    Desk.hold("--x, x all up to the first = or the end: the OPTION x of the PATH");
    printed("a --txt=", "a --txt=''");
    printed("a --txt==", "a --txt='='");
    printed("a --txt=b=c", "a --txt='b=c'");
    printed("a s --own=1 --num=2", "a s --num=2 --own=1");
    blamed("a --own=1", "6 1 2 -1 -1 2");
    blamed("a bare --own=1", "6 2 2 -1 -1 3");
    blamed("a s -- --own=1", "11 3 0 -1 -1 4");
    blamed("a --r", "6 1 2 -1 -1 2");
    blamed("a --tx", "6 1 2 -1 -1 2");
    blamed("a --txts", "6 1 2 -1 -1 2");
    blamed("a --Txt=b", "6 1 2 -1 -1 2");
    blamed("a --t=b", "6 1 2 -1 -1 2");
    blamed("a --=b", "6 1 2 -1 -1 2");
    blamed("a ---", "6 1 2 -1 -1 2");
    blamed("a --' '", "6 1 2 -1 -1 2");
  }

  static void negations() {
    Desk.hold("if x is no-y, y a flag of the PATH: that flag, 0");
    printed("a --no-flg", "a --no-flg");
    printed("a --flg --no-flg", "a --no-flg");
    printed("a --no-flg --flg", "a --flg");
    printed("a s --no-flg", "a s --no-flg");
    blamed("a --no-cnt", "6 1 2 -1 -1 2");
    blamed("a --no-num", "6 1 2 -1 -1 2");
    blamed("a --no-who=ann", "6 1 2 -1 -1 2");
    blamed("a --no-", "6 1 2 -1 -1 2");
    blamed("a --no", "6 1 2 -1 -1 2");
    blamed("a --noflg", "6 1 2 -1 -1 2");
    blamed("a --no-no-flg", "6 1 2 -1 -1 2");
    Desk d = new Desk();
    d.tool(0, "tool a sub s opt z flag; end; end;");
    d.runs("a s --no-z", 0);
    d.blamed("a --no-z", "6 1 2 -1 -1 2");
  }

  static void letters() {
    Desk.hold("-x.., x a letter: letter by letter the OPTION with this short");
    printed("a -f", "a --flg");
    printed("a -cfcc", "a --cnt --cnt --cnt --flg");
    printed("a -fcn5", "a --num=5 --cnt --flg");
    printed("a -fcn 5", "a --num=5 --cnt --flg");
    printed("a -tf", "a --txt=f");
    printed("a -t=f", "a --txt='=f'");
    printed("a -t ''", "a --txt=''");
    blamed("a -F", "6 1 1 -1 -1 2");
    blamed("a -fx", "6 1 2 -1 -1 2");
    blamed("a -ff9", "6 1 3 -1 -1 2");
    blamed("a -f-", "6 1 2 -1 -1 2");
    blamed("a -f=", "6 1 2 -1 -1 2");
    blamed("a -xn5", "6 1 1 -1 -1 2");
    Desk d = new Desk();
    d.tool(0, "tool a opt p flag short \"a\"; opt q flag short \"z\"; opt r flag short \"A\"; opt t flag short \"Z\"; sub s opt u flag short \"m\"; end; end;");
    d.runs("a -azAZ", 0);
    Desk.due("letters", d.print(0), "a --p --q --r --t");
    d.runs("a s -mZ", 1);
    d.blamed("a -m", "6 1 1 -1 -1 2");
  }

  static void switches() {
    Desk.hold("A flag is 1, a count one more");
    Desk d = desk();
    d.runs("a -ff --flg", 0);
    Desk.due("flag", d.x.value(0, 2), 1);
    Desk.due("no count", d.x.value(0, 1), 0);
    d.runs("a -c", 1);
    Desk.due("once", d.x.value(1, 1), 1);
    d.runs("a -cc --cnt -" + Desk.times("c", 39), 2);
    Desk.due("often", d.x.value(2, 1), 42);
    d.runs("a --flg -f", 3);
    Desk.due("flag by its letter", d.x.value(3, 2), 1);
    d.runs("a --no-flg -cf", 4);
    Desk.due("flag by its letter", d.x.value(4, 2), 1);
    d.runs("a -f --no-flg", 5);
    Desk.due("flag, no more", d.x.value(5, 2), 0);
    Desk.due("by the LINE", d.x.source(5, 2), 0);
    Desk.hold("7 a flag or count with =");
    blamed("a --flg=", "7 1 2 2 -1 2");
    blamed("a --flg=true", "7 1 2 2 -1 2");
    blamed("a --no-flg=", "7 1 2 2 -1 2");
    blamed("a b --cnt=1", "7 2 2 1 -1 3");
    blamed("a --flg=1 --cnt=1 --x", "7 1 2 2 -1 4");
  }

  static void values() {
    Desk.hold("take a VALUE: behind the = (of a letter: what stands behind it in the WORD, if there is some), else the next WORD, whatever it is");
    printed("a --num=5 6", "a --num=5 -- 6");
    printed("a --num 5 6", "a --num=5 -- 6");
    printed("a -n5 6", "a --num=5 -- 6");
    printed("a -n 5 6", "a --num=5 -- 6");
    printed("a --num -5", "a --num=-5");
    printed("a -n-5", "a --num=-5");
    printed("a --txt --num --flg", "a --flg --txt=--num");
    printed("a --txt s", "a --txt=s");
    printed("a --txt= b", "a --txt='' -- b");
    printed("a --txt '' b", "a --txt='' -- b");
    printed("a --txt --txt", "a --txt=--txt");
    printed("a -t -t", "a --txt=-t");
  }

  static void noOption() {
    Desk.hold("6 no such OPTION");
    blamed("a --x", "6 1 2 -1 -1 2");
    blamed("a b --x=5", "6 2 2 -1 -1 3");
    blamed("a -x", "6 1 1 -1 -1 2");
    blamed("a -fcx", "6 1 3 -1 -1 2");
    runs("a --num 5");
    runs("a -- --x");
    runs("a --txt --x");
  }

  static void noValue() {
    Desk.hold("8 no VALUE");
    String[] names = {"num", "txt", "lst", "who", "dat"};
    int[] numbers = {0, 3, 4, 5, 6};
    for (int i = 0; i < names.length; i++) {
      blamed("a --" + names[i], "8 1 2 " + numbers[i] + " -1 2");
      blamed("a -" + names[i].charAt(0), "8 1 1 " + numbers[i] + " -1 2");
      blamed("a b -fc" + names[i].charAt(0) + " # c", "8 2 3 " + numbers[i] + " -1 3");
    }
    runs("a --txt ''");
    runs("a --txt=");
  }

  static void secondTime() {
    Desk.hold("9 an OPTION with VALUES, not a list, for the second time (of both 8)");
    String[] told = {"num=1", "txt=", "who=ann", "dat=2000-01-01"};
    int[] numbers = {0, 3, 5, 6};
    for (int i = 0; i < told.length; i++) {
      char letter = told[i].charAt(0);
      String name = told[i].substring(0, 3);
      blamed("a --" + told[i] + " --" + told[i], "9 2 2 " + numbers[i] + " -1 3");
      blamed("a --" + told[i] + " -f" + letter + "x", "9 2 2 " + numbers[i] + " -1 3");
      blamed("a --" + told[i] + " --" + name + " x", "9 2 2 " + numbers[i] + " -1 4");
      blamed("a --" + told[i] + " --" + name, "8 2 2 " + numbers[i] + " -1 3");
      blamed("a --" + told[i] + " -" + letter, "8 2 1 " + numbers[i] + " -1 3");
      runs("a --" + told[i]);
    }
    runs("a --lst=1 --lst 2 -l3 -l 4");
    runs("a --flg --flg -f -cc --cnt");
    blamed("a --num=x --num=y", "9 2 2 0 -1 3");
  }

  static void noRest() {
    Desk.hold("10 a REST WORD, where the PLACE has no rest");
    blamed("a bare x", "10 2 0 -1 -1 3");
    blamed("a bare -- x", "10 3 0 -1 -1 4");
    blamed("a bare -- --", "10 3 0 -1 -1 4");
    blamed("a bare -", "10 2 0 -1 -1 3");
    blamed("a bare ''", "10 2 0 -1 -1 3");
    blamed("a s deep 5", "10 3 0 -1 -1 4");
    runs("a bare --");
    runs("a bare --txt x");
    runs("a x");
  }

  static void ints() {
    Desk.hold("int: perhaps - , 1 to 10 digits, an int of 32 bits");
    String[] right = {"0", "-0", "7", "0000000007", "-0000000007", "2147483646", "2147483647", "-2147483647", "-2147483648", "123456789", "1234567890"};
    for (String number : right) {
      Desk d = desk();
      d.runs("a --num=" + number, 0);
      Desk.due("value of " + number, d.x.value(0, 0), Long.parseLong(number));
    }
    String[] none = {"", "-", "--1", "+1", "1-", "1.0", "1,2", " 1", "1 ", "x", "1x", "00000000007", "-00000000007", "2147483648", "-2147483649",
      "9999999999", "-9999999999", "4294967296", "4294967297", "12345678901", "/", ":", "0x1"};
    for (String number : none) {
      blamed("a '--num=" + number + "'", "11 1 0 0 -1 2");
      blamed("a --num '" + number + "'", "11 2 0 0 -1 3");
      if (!number.isEmpty()) blamed("a '-fn" + number + "'", "11 1 0 0 -1 2");
    }
  }

  static void oneAndText() {
    Desk.hold("text: any");
    String[] any = {"", " ", "-", "--", "'x'", "\\", Desk.times("y", 34)};
    for (String text : any) {
      Desk d = desk();
      d.runs("a \"--txt=" + text.replace("\\", "\\\\") + "\"", 0);
      Desk.due("bytes of " + text, d.x.value(0, 3), text.length());
    }
    Desk d = desk();
    d.runs("a --txt " + Desk.times("y", 40), 0);
    Desk.due("40 bytes", d.x.value(0, 3), 40);
    Desk.hold("one: one of its NAMES");
    printed("a --who=ann", "a --who=ann");
    printed("a --who ben", "a --who=ben");
    String[] none = {"", "an", "anns", "Ann", " ann", "ann,ben", "cid", "0"};
    for (String name : none) blamed("a '--who=" + name + "'", "11 1 0 5 -1 2");
  }

  static String row(int from, int many) {
    StringBuilder all = new StringBuilder();
    for (int i = 0; i < many; i++) all.append(i > 0 ? "," : "").append(from + i);
    return all.toString();
  }

  static void lists() {
    Desk.hold("list: ints with , between, at most 10 of them in all");
    for (int n = 1; n <= 12; n++) {
      if (n <= 10) printed("a --lst " + row(1, n), "a --lst=" + row(1, n));
      else blamed("a --lst=" + row(1, n), "11 1 0 4 -1 2");
    }
    printed("a --lst=" + row(1, 5) + " -l " + row(6, 5), "a --lst=" + row(1, 10));
    blamed("a --lst=" + row(1, 5) + " -l " + row(6, 6), "11 3 0 4 -1 4");
    blamed("a --lst=" + row(1, 10) + " --lst=1", "11 2 0 4 -1 3");
    blamed("a --lst=" + row(1, 9) + " --lst=1 x --lst=2", "11 4 0 4 -1 5");
    printed("a" + Desk.times(" -l7", 10), "a --lst=7,7,7,7,7,7,7,7,7,7");
    blamed("a" + Desk.times(" -l7", 11), "11 11 0 4 -1 12");
    printed("a --lst -2147483648,2147483647,-0,0000000001", "a --lst=-2147483648,2147483647,0,1");
    String[] none = {"", ",", "1,", ",1", "1,,2", "1, 2", "1;2", "x", "1,x", "-", "1,-", "2147483648", "1,-2147483649", "1,00000000001"};
    for (String list : none) blamed("a '--lst=" + list + "'", "11 1 0 4 -1 2");
  }

  static void restInts() {
    Desk.hold("of rest likewise");
    String[] right = {"0", "-5", "2147483647", "-2147483648", "0000000001"};
    for (String number : right) runs("a s -- " + number);
    String[] none = {"''", "-", "2147483648", "-2147483649", "00000000001", "x", "1x"};
    for (String number : none) {
      blamed("a s -- " + number, "11 3 0 -1 -1 4");
      blamed("a s 5 -- 6 " + number, "11 5 0 -1 -1 6");
      runs("a -- " + number);
    }
  }

  static void wordByWord() {
    Desk.hold("Then VALUES are read, WORD by WORD");
    blamed("a --num=x --who=y", "11 1 0 0 -1 3");
    blamed("a --who=y --num=x", "11 1 0 5 -1 3");
    blamed("a s x --num=y", "11 2 0 -1 -1 4");
    blamed("a s --num y x", "11 3 0 0 -1 5");
    blamed("a --num=x --bad", "6 2 2 -1 -1 3");
    blamed("a --lst=1,x --lst=y --num=z", "11 1 0 4 -1 4");
  }
}
