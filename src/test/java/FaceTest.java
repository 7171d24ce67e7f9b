/** Promises 1, 2, 5, 6, 10, 17: a new object, the tape, rows, counts; and what is thrown. */
public final class FaceTest {
  public static void main(String[] args) {
    fresh();
    tape();
    rows();
    fullRows();
    thrown();
    thrownChangesNothing();
    Desk.end();
  }

  static void fresh() {
    Desk d = new Desk();
    Desk.due("NONE", HarbourDesk.NONE, -1);
    for (int what = 0; what <= 8; what++) Desk.due("count(" + what + ") of a new one", d.x.count(what), 0);
    Desk.due("count(9)", d.x.count(9), -1);
    Desk.due("count(-1)", d.x.count(-1), -1);
    Desk.due("fault() of a new one", d.x.fault(), -1);
    Desk.due("blames of a new one", d.blames(), "0 -1 -1 -1 -1 0");
    Desk.due("blame(6)", d.x.blame(6), -1);
    Desk.due("blame(-1)", d.x.blame(-1), -1);
    Desk.due("word(0, 0)", d.x.word(0, 0), -1);
    Desk.due("octet(0)", d.x.octet(0), -1);
    Desk.due("octet(-1)", d.x.octet(-1), -1);
    Desk.due("show(0, 0)", d.x.show(0, 0), -1);
    Desk.due("show(1, 0)", d.x.show(1, 0), -1);
    for (int sort = 0; sort < 3; sort++) Desk.due("clear(" + sort + ")", d.x.clear(sort), 0);
  }

  static void tape() {
    Desk d = new Desk();
    for (int i = 1; i <= 100; i++) Desk.due("feed", d.x.feed(0x746f6f6c, 0x20612065, 0x6e643b20, 0x20202020, 0x20202020), 20 * i);
    Desk.due("the 101st feed", d.x.feed(1, 2, 3, 4, 5), -1);
    Desk.due("count(2)", d.x.count(2), 2000);
    Desk.due("the highest byte first", d.x.describe(11), 0);
    Desk.due("the tape is empty then", d.x.count(2), 0);
    Desk.due("feed again", d.x.feed(0, 0, 0, 0, 0), 20);
    Desk.due("describe(0)", d.x.describe(0), -9);
    Desk.due("fault()", d.x.fault(), 0);
    Desk bytes = new Desk();
    bytes.tool(0, "tool a rest r text; end;");
    bytes.x.feed(0x61207e21, 0xff202020, 0, 0, 0);
    Desk.due("bytes of a word", bytes.x.run(4), 0);
    Desk.due("bytes of a word", bytes.words(), "a|~!");
    bytes.x.feed(0x61207e21, 0xff202020, 0, 0, 0);
    Desk.due("byte 255", bytes.x.run(5), -19);
  }

  static void rows() {
    Desk d = new Desk();
    d.puts(0, "spd=7", 1);
    d.puts(0, "spd=", 1);
    d.puts(0, "s-9=a=b c", 1);
    Desk.due("count(4)", d.x.count(4), 2);
    d.puts(0, "", 0);
    d.puts(0, "=7", 0);
    d.puts(0, "spd", 0);
    d.puts(0, "spd =7", 0);
    d.puts(0, " spd=7", 0);
    d.puts(0, "9s=7", 0);
    d.puts(0, "s-=7", 0);
    d.puts(0, "sP=7", 0);
    d.puts(0, "a.b=7", 0);
    d.puts(0, "abcdefghij=7", 1);
    d.puts(0, "abcdefghijk=7", 0);
    d.puts(0, "count=7", 0);
    d.puts(0, "counts=7", 1);
    d.puts(0, "x=" + Desk.times("y", 60), 1);
    d.puts(0, "x=" + Desk.times("y", 61), 0);
    d.puts(0, "x=a\nb", 0);
    d.puts(0, "x=a\u007f", 0);
    d.puts(0, "x=\u001f", 0);
    d.puts(0, "x=~", 1);
    d.feed("spd=\n");
    Desk.due("= is beyond n", d.x.put(0, 3), 0);
    d.feed("spd=\n");
    Desk.due("a bad byte is beyond n", d.x.put(0, 4), 1);
    Desk.due("count(4)", d.x.count(4), 5);
    d.puts(1, "a=1", 1);
    d.puts(1, "a.b.c.d.e.f=1", 1);
    d.puts(1, "a.b.c.d.e.f.g=1", 0);
    d.puts(1, "a.=1", 0);
    d.puts(1, ".a=1", 0);
    d.puts(1, "a..b=1", 0);
    d.puts(1, "a.int=1", 0);
    Desk.due("count(5)", d.x.count(5), 2);
    d.puts(2, "a=", 1);
    d.puts(2, "b=# x '", 1);
    d.puts(2, "c='", 0);
    d.puts(2, "c=\"a\\\"", 0);
    d.puts(2, "c=a\\", 0);
    d.puts(2, "c=" + Desk.times("z", 41), 0);
    d.puts(2, "c=" + Desk.times("z", 40), 1);
    d.puts(2, "a.b=c", 0);
    d.puts(2, "end=c", 0);
    Desk.due("count(6)", d.x.count(6), 3);
    Desk.due("clear(1)", d.x.clear(1), 2);
    Desk.due("count(5) then", d.x.count(5), 0);
    Desk.due("count(4) then", d.x.count(4), 5);
    Desk.due("clear(0)", d.x.clear(0), 5);
    Desk.due("clear(2)", d.x.clear(2), 3);
    Desk.due("ends without aliases", d.ends(""), 0);
  }

  static void fullRows() {
    for (int sort = 0; sort < 3; sort++) {
      Desk d = new Desk();
      for (int i = 0; i < 19; i++) d.puts(sort, "k" + i + "=" + i, 1);
      d.puts(sort, "k3=new", 1);
      Desk.due("rows behind one in its place", d.x.count(4 + sort), 19);
      d.puts(sort, "k19=19", 1);
      d.puts(sort, "more=1", 0);
      d.puts(sort, "k3=newer", 0);
      Desk.due("rows", d.x.count(4 + sort), 20);
      if (sort == 2) {
        d.ends("k");
        Desk.due("aliases in order", d.names(0),
            "k0 k1 k2 k3 k4 k5 k6 k7 k8 k9 k10 k11 k12 k13 k14 k15 k16 k17 k18 k19");
      }
      Desk.due("clear", d.x.clear(sort), 20);
      d.puts(sort, "more=1", 1);
    }
  }

  static void thrown() {
    Desk d = new Desk();
    d.tool(0, "tool a end;");
    d.feed(Desk.times("a", 20));
    Desk.thrown("describe(21)", () -> d.x.describe(21), 1);
    Desk.thrown("describe(-1)", () -> d.x.describe(-1), 1);
    Desk.thrown("put(0, 21)", () -> d.x.put(0, 21), 1);
    Desk.thrown("put(0, -1)", () -> d.x.put(0, -1), 1);
    Desk.thrown("put(3, 1)", () -> d.x.put(3, 1), 1);
    Desk.thrown("put(-1, 1)", () -> d.x.put(-1, 1), 1);
    Desk.thrown("clear(3)", () -> d.x.clear(3), 1);
    Desk.thrown("clear(-1)", () -> d.x.clear(-1), 1);
    Desk.thrown("run(21)", () -> d.x.run(21), 1);
    Desk.thrown("run(-1)", () -> d.x.run(-1), 1);
    Desk.thrown("ends(21)", () -> d.x.ends(21), 1);
    Desk.thrown("ends(-1)", () -> d.x.ends(-1), 1);
    Desk.thrown("show(2, 0)", () -> d.x.show(2, 0), 1);
    Desk.thrown("show(-1, 0)", () -> d.x.show(-1, 0), 1);
    Desk.due("the tape stays", d.x.count(2), 20);
    for (int r = -1; r <= 0; r++) {
      int at = r;
      Desk.thrown("record", () -> d.x.record(at, 0), 3);
      Desk.thrown("record", () -> d.x.record(at, 9), 3);
      Desk.thrown("source", () -> d.x.source(at, 0), 3);
      Desk.thrown("value", () -> d.x.value(at, 0), 3);
      Desk.thrown("item", () -> d.x.item(at, 0, 0), 3);
      Desk.thrown("print", () -> d.x.print(at), 3);
      Desk.thrown("same", () -> d.x.same(at, 0), 3);
    }
    d.feed(Desk.times(" ", 380));
    Desk.due("a tape", d.x.count(2), 400);
    d.feed(Desk.times(" ", 20));
    Desk.thrown("run(401)", () -> d.x.run(401), 1);
    Desk.thrown("ends(401)", () -> d.x.ends(401), 1);
    Desk.thrown("run(400)", () -> d.x.run(400), 0);
    d.feed(Desk.times(" ", 400));
    Desk.thrown("ends(400)", () -> d.x.ends(400), 0);
    d.run("a");
    Desk.thrown("record(0, 3)", () -> d.x.record(0, 3), 1);
    Desk.thrown("record(0, -1)", () -> d.x.record(0, -1), 1);
    Desk.thrown("same(0, 1)", () -> d.x.same(0, 1), 3);
    Desk.thrown("same(1, 0)", () -> d.x.same(1, 0), 3);
    Desk.thrown("same(0, 0)", () -> d.x.same(0, 0), 0);
  }

  static void thrownChangesNothing() {
    Desk d = new Desk();
    d.tool(0, "tool a end;");
    for (int i = 0; i < 40; i++) d.runs("a", i);
    d.feed("nothing");
    Desk.thrown("run with 40 records", () -> d.x.run(7), 2);
    Desk.thrown("run with 40 records, wrong n", () -> d.x.run(99), 1);
    Desk.due("the tape stays", d.x.count(2), 20);
    Desk.due("the words stay", d.words(), "a");
    Desk.due("records", d.x.count(1), 40);
    Desk.due("ends() goes on", d.x.ends(0), 1);
    Desk.due("ends() is told", d.names(0), "a");
  }
}
