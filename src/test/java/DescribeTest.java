/** Promises 3 and 4: descriptions and their FAULTS. */
public final class DescribeTest {
  public static void main(String[] args) {
    tokens();
    form();
    names();
    sorts();
    many();
    links();
    least();
    Desk.end();
  }

  static void tokens() {
    Desk d = new Desk();
    d.tool(0, "tool a end;");
    d.tool(1, "\n tool\nb  opt x int min -5max 7default 3;\nend ; \n");
    d.tool(2, "tool c opt x one(a,b9-z)short\"x\"; end;");
    d.tool(3, "tool abcdefghij opt y text default \"12345678901~\"; end;");
    d.tool(4, "tool d opt y text default \"\"; end;");
    d.tool(5, "tool e opt y int min -999999 max 999999; end;");
    d.fault("tool f opt y int max 1234567; end;", 1, 21);
    d.fault("tool f opt y int max -; end;", 1, 21);
    d.fault("tool f opt y int max - 5; end;", 1, 21);
    d.fault("tool abcdefghijk end;", 1, 5);
    d.fault("tool a- end;", 1, 5);
    d.fault("tool 9a end;", 1, 5);
    d.fault("tool fB end;", 1, 6);
    d.fault("tool f opt y text default \"1234567890123\"; end;", 1, 26);
    d.fault("tool f opt y text default \"a; end;", 1, 26);
    d.fault("tool f opt y text default \"a\nb\"; end;", 1, 26);
    d.fault("tool f opt y text default \"\u007f\"; end;", 1, 26);
    d.feed("tool f opt y text default \"a\"; end;");
    Desk.due("the text ends beyond n", d.x.describe(28), -9);
    Desk.due("its place", d.x.fault(), 26);
    d.fault("tool f\tend;", 1, 6);
    d.fault("tool f end;\u0000", 1, 11);
    d.fault("tool int end;", 1, 5);
    d.fault("tool no end;", 1, 5);
    d.tool(6, "tool nox end;");
  }

  static void form() {
    Desk d = new Desk();
    d.fault("", 1, 0);
    d.fault("   ", 1, 3);
    d.fault("tools a end;", 1, 0);
    d.fault("tool", 1, 4);
    d.fault("tool  ", 1, 6);
    d.fault("tool a", 1, 6);
    d.fault("tool a end", 1, 10);
    d.fault("tool a end; end;", 1, 12);
    d.fault("tool a ; end;", 1, 7);
    d.fault("tool a opt x; end;", 1, 12);
    d.fault("tool a opt x bool; end;", 1, 13);
    d.fault("tool a opt x flag", 1, 17);
    d.fault("tool a opt x flag env; end;", 1, 21);
    d.fault("tool a opt x flag env \"e\"; end;", 1, 22);
    d.fault("tool a opt x flag env int; end;", 1, 22);
    d.fault("tool a opt x flag short x; end;", 1, 24);
    d.fault("tool a opt x int min \"5\"; end;", 1, 21);
    d.fault("tool a opt x int default; end;", 1, 24);
    d.fault("tool a opt x int default need; end;", 1, 25);
    d.fault("tool a opt x flag not 5; end;", 1, 22);
    d.fault("tool a opt x flag rest; end;", 1, 18);
    d.fault("tool a opt x one; end;", 1, 16);
    d.fault("tool a opt x one(); end;", 1, 17);
    d.fault("tool a opt x one(a; end;", 1, 18);
    d.fault("tool a opt x one(a,); end;", 1, 19);
    d.fault("tool a opt x one(a b); end;", 1, 19);
    d.fault("tool a opt x one(flag); end;", 1, 17);
    d.fault("tool a rest r flag; end;", 1, 14);
    d.fault("tool a rest r; end;", 1, 13);
    d.fault("tool a rest r int need need; end;", 1, 23);
    d.fault("tool a rest r int hidden; end;", 1, 18);
    d.fault("tool a sub; end;", 1, 10);
    d.fault("tool a sub s end; end", 1, 21);
    d.fault("tool a sub s end end;", 1, 17);
    d.fault("tool a sub s end;", 1, 17);
    d.tool(0, "tool a sub s end; end;");
  }

  static void names() {
    Desk d = new Desk();
    d.tool(0, "tool a end;");
    d.fault("tool a end;", 2, 5);
    d.tool(1, "tool b sub s end; sub t sub s end; end; opt s flag; end;");
    d.fault("tool c sub s end; sub s end; end;", 2, 22);
    d.fault("tool c opt x flag; opt x int; end;", 2, 23);
    d.fault("tool c opt x flag; rest x int; end;", 2, 24);
    d.fault("tool c rest x text; opt x int; end;", 2, 24);
    d.fault("tool c rest x text; sub s rest x int; end; end;", 2, 31);
    d.fault("tool c sub s rest x int; end; rest x text; end;", 2, 35);
    d.fault("tool c sub s sub t opt x int; end; end; opt x flag; end;", 2, 44);
    d.fault("tool c opt x int; sub s sub t opt x int; end; end; end;", 2, 34);
    d.tool(2, "tool c sub s opt x int short \"x\"; rest r int; end; sub t opt x int short \"x\"; rest r int; end; end;");
    d.fault("tool d opt no-x int; end;", 2, 11);
    d.fault("tool d rest no-x int; end;", 2, 12);
    d.tool(3, "tool no-d sub no-s end; opt nox one(no-a); opt n flag; end;");
    d.fault("tool d opt x flag short \"x\"; opt y flag short \"x\"; end;", 2, 46);
    d.fault("tool d opt x flag short \"x\"; sub s opt y flag short \"x\"; end; end;", 2, 52);
    d.fault("tool d sub s opt y flag short \"x\"; end; opt x flag short \"x\"; end;", 2, 57);
    d.tool(4, "tool d opt x flag short \"x\"; opt y flag short \"X\"; end;");
    d.fault("tool e opt x one(a,b,a); end;", 2, 21);
    d.tool(5, "tool e opt x one(a,x); opt y one(a,x); end;");
  }

  static void sorts() {
    Desk d = new Desk();
    d.fault("tool a opt x int short \"x\" short \"y\"; end;", 3, 27);
    d.fault("tool a opt x int need need; end;", 3, 22);
    d.fault("tool a opt x int hidden hidden; end;", 3, 24);
    d.fault("tool a opt x int min 1 min 1; end;", 3, 23);
    d.fault("tool a opt x int max 1 max 1; end;", 3, 23);
    d.fault("tool a opt x int default 1 default 1; end;", 3, 27);
    d.fault("tool a opt x int env e env e; end;", 3, 23);
    d.fault("tool a opt x int need default 1; end;", 3, 22);
    d.fault("tool a opt x int default 1 need; end;", 3, 27);
    String[] noBounds = {"flag", "count", "text", "day", "one(p)"};
    for (String sort : noBounds) {
      d.fault("tool a opt x " + sort + " min 1; end;", 3, 14 + sort.length());
      d.fault("tool a opt x " + sort + " max 1; end;", 3, 14 + sort.length());
    }
    String[] noDefault = {"flag", "count", "list"};
    for (String sort : noDefault) d.fault("tool a opt x " + sort + " default 1; end;", 3, 14 + sort.length());
    d.fault("tool a opt x flag short \"\"; end;", 3, 24);
    d.fault("tool a opt x flag short \"ab\"; end;", 3, 24);
    d.fault("tool a opt x flag short \"-\"; end;", 3, 24);
    d.fault("tool a opt x list min 5 max 4; end;", 3, 28);
    d.fault("tool a opt x list max 4 min 5; end;", 3, 28);
    d.fault("tool a opt x int default \"1\"; end;", 3, 25);
    d.fault("tool a opt x int default a; end;", 3, 25);
    d.fault("tool a opt x text default 1; end;", 3, 26);
    d.fault("tool a opt x text default a; end;", 3, 26);
    d.fault("tool a opt x day default 1; end;", 3, 25);
    d.fault("tool a opt x day default \"2024-2-29\"; end;", 3, 25);
    d.fault("tool a opt x day default \"1599-12-31\"; end;", 3, 25);
    d.fault("tool a opt x day default \"2400-01-01\"; end;", 3, 25);
    d.fault("tool a opt x one(p,q) default r; end;", 3, 30);
    d.fault("tool a opt x one(p,q) default \"p\"; end;", 3, 30);
    d.fault("tool a opt x one(p,q) default 1; end;", 3, 30);
    d.fault("tool a opt x int min 5 default 4; end;", 3, 31);
    d.fault("tool a opt x int max 5 default 6; end;", 3, 31);
    d.fault("tool a opt x int default 4 min 5; end;", 3, 31);
    d.fault("tool a opt x int default 6 max 5; end;", 3, 31);
    d.tool(0, "tool a opt x int min 5 max 5 default 5 hidden env e short \"Z\"; opt y list min 0 need; end;");
    d.tool(1, "tool b opt x day default \"2400-01-01\"; end;".replace("2400-01-01", "2399-12-31"));
    d.tool(2, "tool c opt x day default \"1600-02-29\"; opt y one(p,q) default q; opt z flag need; end;");
  }

  static void many() {
    Desk d = new Desk();
    for (int i = 0; i < 12; i++) d.tool(i, "tool t" + i + " end;");
    d.fault("tool t12 end;", 4, 5);
    d.fault("tool t3 end;", 2, 5);
    d.fault("tool int end;", 1, 5);
    Desk e = new Desk();
    StringBuilder forty = new StringBuilder("tool a ");
    for (int i = 0; i < 38; i++) forty.append("opt o").append(i).append(" flag; ");
    forty.append("sub s opt p flag; opt q flag; end; ");
    e.fault(forty + "opt z int; end;", 4, forty.length());
    e.tool(0, forty + "end;");
    StringBuilder subs = new StringBuilder("tool b ");
    for (int i = 0; i < 8; i++) subs.append("sub s").append(i).append(" sub t end; end; ");
    e.fault(subs + "sub s0 end; end;", 4, subs.length());
    e.tool(1, subs + "end;");
    e.tool(2, "tool c sub s sub t sub u end; end; end; end;");
    e.fault("tool d sub s sub t sub u sub v end; end; end; end; end;", 4, 25);
    e.fault("tool d rest r int; rest s int; end;", 4, 19);
    e.fault("tool d rest r int; rest r int; end;", 4, 19);
    e.tool(3, "tool d rest r int; sub s rest u int; end; end;");
    e.tool(4, "tool e opt x one(a,b,c,d,e,f,g,h); end;");
    e.fault("tool f opt x one(a,b,c,d,e,f,g,h,i); end;", 4, 33);
    e.fault("tool f opt x one(a,b,c,d,e,f,g,h,a); end;", 2, 33);
    e.fault("tool f opt x flag not y not y not y; opt y flag; end;", 4, 30);
    e.fault("tool f opt x flag with y with y with; opt y flag; end;", 4, 32);
    e.tool(5, "tool f opt x flag not y with y not y with y; opt y flag; end;");
  }

  static void links() {
    Desk d = new Desk();
    d.fault("tool a opt x flag not y; end;", 5, 22);
    d.fault("tool a opt x flag with x; end;", 5, 23);
    d.fault("tool a opt x flag with r; rest r int; end;", 5, 23);
    d.fault("tool a opt x flag with y; sub s opt y int; end; end;", 5, 23);
    d.fault("tool a sub t opt x flag with y; end; sub s opt y int; end; end;", 5, 29);
    d.fault("tool a opt x flag with y not z; opt y flag not q; end;", 5, 29);
    d.fault("tool a opt x flag with q; opt y flag; opt y flag; end;", 2, 42);
    d.fault("tool a opt x flag with q; end", 1, 29);
    d.tool(0, "tool a sub s opt x flag with y not z; opt z int; end; opt y flag; end;");
  }

  static void least() {
    Desk d = new Desk();
    d.tool(0, "tool a end;");
    d.fault("tool a end", 2, 5);
    d.fault("tool b opt x flag min 5 max \"", 3, 18);
    d.fault("tool b opt x int default 5 default", 3, 27);
    Desk.due("a good one clears the fault", d.describe("tool b end;"), 1);
    Desk.due("a good one clears the fault", d.x.fault(), -1);
    d.fault("tool b end;", 2, 5);
    Desk.due("put leaves it", d.put(0, "a=b"), 1);
    Desk.due("put leaves it", d.x.fault(), 5);
  }
}
