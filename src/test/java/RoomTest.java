import java.lang.management.ManagementFactory;

/**
 * What 512 calls make must fit in one room of 600,000 objects and 7,300,000 fields and elements. An object takes 16 bytes
 * here at least and an element 2, so that less than 9,600,000 bytes keep to both.
 */
public final class RoomTest {
  static final long ROOM = 9_600_000;

  interface Run { void go(Desk d, Counter calls); }

  static final class Counter { int left = 512; }

  public static void main(String[] args) {
    within("lines of sixty words", RoomTest::longLines);
    within("descriptions", RoomTest::descriptions);
    within("ends", RoomTest::manyEnds);
    within("long pages", RoomTest::longPages);
    within("near names", RoomTest::nearNames);
    Desk.end();
  }

  static void within(String what, Run run) {
    run.go(new Desk(), new Counter());
    com.sun.management.ThreadMXBean bean = (com.sun.management.ThreadMXBean) ManagementFactory.getThreadMXBean();
    long id = Thread.currentThread().getId();
    long before = bean.getThreadAllocatedBytes(id);
    run.go(new Desk(), new Counter());
    long made = bean.getThreadAllocatedBytes(id) - before;
    System.out.println(what + ": " + made + " bytes");
    Desk.due(what + " fit in the room", made < ROOM ? 1 : 0, 1);
  }

  static void feed(Desk d, Counter calls, String text) {
    d.feed(text);
    calls.left -= (text.length() + 19) / 20;
  }

  static void describe(Desk d, Counter calls, String text) {
    feed(d, calls, text);
    d.x.describe(text.length());
    calls.left--;
  }

  static void alias(Desk d, Counter calls, String text) {
    feed(d, calls, text);
    d.x.put(2, text.length());
    calls.left--;
  }

  static void longLines(Desk d, Counter calls) {
    describe(d, calls, "tool t opt l list; opt m count; rest r text; end;");
    alias(d, calls, "a=t" + Desk.times(" --l=1", 9));
    for (char c = 'b'; c < 'g'; c++) alias(d, calls, c + "=" + (char) (c - 1) + Desk.times(" --m", 11));
    while (calls.left > 0) {
      feed(d, calls, "e --x");
      d.x.run(5);
      calls.left--;
    }
  }

  static void descriptions(Desk d, Counter calls) {
    StringBuilder all = new StringBuilder("tool t");
    for (int i = 0; i < 40; i++) all.append(" opt o").append(i).append(" one(a,b,c,d,e,f,g,h)env a;");
    while (calls.left > 100) describe(d, calls, all + " x");
  }

  static void manyEnds(Desk d, Counter calls) {
    StringBuilder all = new StringBuilder("tool t");
    for (int i = 0; i < 40; i++) all.append(" opt o").append(i).append(" flag;");
    for (int i = 0; i < 16; i++) all.append(" sub s").append(i).append(" end;");
    describe(d, calls, all + " end;");
    while (calls.left > 0) {
      feed(d, calls, "t ");
      d.x.ends(2);
      calls.left--;
    }
  }

  static void longPages(Desk d, Counter calls) {
    describe(d, calls, "tool a opt abcdefghij count short \"v\"; end;");
    for (int i = 0; i < 19; i++) alias(d, calls, "b" + i + "=b" + (i + 1) + " -" + Desk.times("v", 39));
    alias(d, calls, "b19=a");
    feed(d, calls, "b0" + Desk.times(" -" + Desk.times("v", 39), 9));
    d.x.run(371);
    for (; calls.left > 0; calls.left--) d.x.print(0);
  }

  static void nearNames(Desk d, Counter calls) {
    StringBuilder all = new StringBuilder("tool t");
    for (int i = 0; i < 40; i++) all.append(" opt name").append(i).append(" int;");
    describe(d, calls, all + " end;");
    while (calls.left > 0) {
      feed(d, calls, "t --nami");
      d.x.run(8);
      calls.left--;
    }
  }
}
