import java.util.ArrayList;
import java.util.List;
import java.util.Random;

/** Random runs, each call's answer held against the Oracle's. The seeds are fixed. */
public final class OracleTest {
  static final String[] NAMES = {"a", "b", "ab", "num", "nun", "no", "no-a", "x-1", "abcdefghij", "load", "unload", "int", "x"};
  static final String[] SORTS = {"flag", "count", "int", "text", "day", "list", "one(a,b)", "one(ab)", "one(a,b,c,d,e,f,g,h)"};
  static final String[] MARKS = {"short \"a\"", "short \"b\"", "short \"C\"", "short \"d\"", "need", "hidden", "min -3", "max 9", "min 2",
    "default 5", "default \"a b\"", "default a", "default \"2024-02-29\"", "env e", "env f", "not a", "with b", "not num", "with x"};
  static final String[] VALUES = {"5", "-3", "0", "12", "a", "b", "ab", "2024-02-29", "1970-01-01", "2023-02-29", "1,2", "1,-2,3", "1,2,3,4,5,6",
    "", "'a b'", "\"it's\"", "x\\ y", "true", "false", "2147483648", "-2147483648", "--a", "--", "'", "\\", "a=b", "#", "a#"};

  public static void main(String[] args) {
    int runs = args.length > 0 ? Integer.parseInt(args[0]) : 3000;
    int seed = args.length > 1 ? Integer.parseInt(args[1]) : 1;
    for (int i = 0; i < runs && Desk.wrong < 20; i++) new OracleTest(seed + i).go();
    Desk.end();
  }

  final Random random;
  final int seed;
  final Desk d = new Desk();
  final Oracle o = new Oracle();
  // OPTIONS that the description at hand has at its TOOL
  final List<String> known = new ArrayList<>();
  // most descriptions and lines fit, so that the later checks are met
  final boolean tidy;

  OracleTest(int seed) { this.seed = seed; random = new Random(seed); tidy = seed % 2 == 0; }

  int below(int n) { return random.nextInt(n); }
  String of(String[] all) { return all[below(all.length)]; }
  boolean one(int in) { return below(in) == 0; }

  void due(String what, long got, long want) { Desk.due("seed " + seed + ": " + what, got, want); }
  void due(String what, String got, String want) { Desk.due("seed " + seed + ": " + what, got, want); }

  void go() {
    int wrongs = one(3) ? 40 : 1000000;
    for (int i = 0; i < 2 + below(4); i++) describe(mutated(description(i), wrongs));
    for (int i = 0; i < 40; i++) step();
    for (int r = 0; r < o.records.size(); r++) compareRecord(r);
  }

  void step() {
    d.behind = " '\"\\=5a;\n".charAt(below(9));
    switch (below(10)) {
      case 0: describe(mutated(description(below(9)), 30)); break;
      case 1: case 2: put(); break;
      case 3: if (one(6)) { int s = below(3); due("clear", d.x.clear(s), o.clear(s)); } break;
      case 4: case 5: ends(mutated(line(), 25)); break;
      default: if (o.records.size() < 40) run(mutated(line(), 40));
    }
  }

  String mutated(String text, int in) {
    if (!one(in < 100 ? 3 : in) || text.isEmpty()) return text;
    StringBuilder s = new StringBuilder(text);
    for (int n = 1 + below(2); n > 0; n--) {
      int at = below(s.length() + 1);
      String odd = " \n'\"\\#;(),-=az09AZ_\t\u007f\u00ff";
      if (at < s.length() && one(2)) s.deleteCharAt(at);
      else s.insert(at, odd.charAt(below(odd.length())));
      if (s.length() == 0) break;
    }
    return s.toString();
  }

  // ---- descriptions

  String description(int i) {
    known.clear();
    StringBuilder s = new StringBuilder("tool ").append(one(4) ? of(NAMES) : "t" + i).append(one(5) ? "\n" : " ");
    parts(s, 0);
    return s.append("end;").toString();
  }

  String tidyMark(String sort) {
    if (!known.isEmpty() && one(2)) return (one(2) ? "not " : "with ") + known.get(below(known.size()));
    switch (sort) {
      case "int": return of(new String[] {"min 2", "max 7", "default 5", "env e"});
      case "list": return of(new String[] {"min 2", "max 7", "env f", "need"});
      case "text": return of(new String[] {"default \"a b\"", "env e", "hidden", "short \"b\""});
      case "day": return of(new String[] {"default \"2024-02-29\"", "env e", "need"});
      default: return of(new String[] {"env e", "need", "hidden", "short \"a\"", "short \"C\""});
    }
  }

  void parts(StringBuilder s, int depth) {
    for (int n = below(depth == 0 ? 7 : 4); n > 0; n--) {
      int kind = below(10);
      if (kind < 7) {
        String sort = of(SORTS);
        String name = one(tidy ? 20 : 3) ? of(NAMES) : "o" + below(40);
        s.append("opt ").append(name).append(' ').append(sort);
        for (int m = below(3); m > 0; m--) s.append(' ').append(tidy && !one(30) ? tidyMark(sort) : of(MARKS));
        s.append("; ");
        if (depth == 0) known.add(name);
      } else if (kind == 7) {
        s.append("rest ").append(one(4) ? of(NAMES) : "r" + below(20)).append(one(2) ? " text" : " int").append(one(4) ? " need; " : "; ");
      } else if (depth < 4) {
        s.append("sub ").append(one(2) ? of(NAMES) : "s" + below(5)).append(' ');
        parts(s, depth + 1);
        s.append("end; ");
      }
    }
  }

  void describe(String text) {
    if (text.length() > 2000) return;
    due("describe " + text, d.describe(text), o.describe(text));
    due("fault of " + text, d.x.fault(), o.faultPlace);
    due("tools", d.x.count(0), o.tools.size());
  }

  // ---- rows

  void put() {
    int sort = below(3);
    String key = sort == 0 ? (one(3) ? of(NAMES) : one(2) ? "e" : "f") : sort == 2 ? "k" + below(5) : settingKey();
    String value = sort == 2 ? line() : of(VALUES);
    if (value.length() > 60 && one(2)) value = value.substring(0, 60);
    String row = mutated(key + "=" + value, 12);
    due("put " + sort + " " + row, d.put(sort, row), o.put(sort, row));
    for (int s = 0; s < 3; s++) due("rows", d.x.count(4 + s), o.rows.get(s).size());
  }

  String settingKey() {
    if (o.tools.isEmpty()) return "a.b";
    Oracle.ToolOf t = o.tools.get(below(o.tools.size()));
    if (t.opts.isEmpty()) return t.name;
    Oracle.Opt p = t.opts.get(below(t.opts.size()));
    return String.join(".", p.path) + "." + p.name;
  }

  // ---- lines

  String line() {
    StringBuilder s = new StringBuilder(one(9) ? " " : "");
    if (one(tidy ? 20 : 4) || o.tools.isEmpty()) return s.append("k").append(below(5)).append(one(2) ? "" : " " + of(VALUES)).toString();
    Oracle.ToolOf t = o.tools.get(below(o.tools.size()));
    Oracle.Spot spot = t.spots.get(below(t.spots.size()));
    s.append(String.join(" ", spot.path));
    for (int n = below(one(9) ? 20 : 5); n > 0; n--) {
      s.append(one(30) ? "\n " : " ");
      if (t.opts.isEmpty() || one(4) && (!tidy || spot.rest != null)) { s.append(tidy ? "" + below(9) : of(VALUES)); continue; }
      Oracle.Opt p = t.opts.get(below(t.opts.size()));
      if (!Oracle.startsWith(spot.path, p.path) && !one(8)) continue;
      if (p.shortSign != null && one(2)) s.append('-').append(p.shortSign);
      else s.append("--").append(one(6) ? "no-" : "").append(p.name).append(one(tidy ? 60 : 10) ? "x" : "");
      if (p.takes() ? !one(12) : one(12)) s.append(one(2) ? "=" : one(4) ? "" : " ").append(one(tidy ? 60 : 6) ? of(VALUES) : fitting(p));
    }
    if (one(20)) lengthen(s);
    return s.append(one(4) ? " " : "").append(one(20) ? "# x" : "").toString();
  }

  // WORDS of about 40 bytes and about 60 WORDS, some of them not in order
  void lengthen(StringBuilder s) {
    if (one(2)) s.append(Desk.times(" a", 50 + below(12)));
    s.append(' ').append(of(new String[] {"", "'", "\"", "b'c'"})).append(Desk.times("a", 36 + below(6)));
    for (int n = below(4); n > 0; n--) s.append(of(new String[] {"'", "\"", "\\", "\t", "b", "\\'", " ", "#"}));
  }

  String fitting(Oracle.Opt p) {
    switch (p.sort) {
      case "int": return "" + below(12);
      case "day": return "20" + (10 + below(90)) + "-0" + (1 + below(9)) + "-1" + below(10);
      case "one": return p.names.get(below(p.names.size()));
      case "list": return below(5) + "," + below(12);
      default: return of(VALUES);
    }
  }

  void run(String line) {
    if (line.length() > 400) return;
    due("run " + line, d.run(line), o.run(line));
    compareLine(line);
    int r = o.records.size() - 1;
    if (r >= 0) compareRecord(r);
  }

  void ends(String line) {
    if (!one(3) && line.length() > 1) line = line.substring(0, 1 + below(line.length()));
    if (line.length() > 400) return;
    due("ends " + line, d.ends(line), o.ends(line));
    compareLine(line);
  }

  void compareLine(String line) {
    StringBuilder want = new StringBuilder();
    for (int b : o.blames) want.append(want.length() > 0 ? " " : "").append(b);
    due("blames of " + line, d.blames(), want.toString());
    due("words of " + line, d.words(), String.join("|", o.words));
    due("ENDS of " + line, d.names(0), String.join(" ", o.ends));
    due("NEAR of " + line, d.names(1), String.join(" ", o.near));
    due("records", d.x.count(1), o.records.size());
  }

  void compareRecord(int r) {
    Oracle.Rec rec = o.records.get(r);
    due("tool", d.x.record(r, 0), o.tools.indexOf(rec.tool));
    due("subs", d.x.record(r, 1), rec.path.size() - 1);
    due("rest", d.x.record(r, 2), rec.rest.size());
    for (int i = -1; i <= rec.tool.opts.size(); i++) {
      due("source", d.x.source(r, i), rec.sources.getOrDefault(i, -1));
      due("value", d.x.value(r, i), o.value(r, i));
      for (int k = -1; k < 12; k++) due("item", d.x.item(r, i, k), o.item(r, i, k));
    }
    for (int k = 0; k < 300; k += 100) due("rest", d.x.item(r, -1, k), o.item(r, -1, k));
    due("print", d.print(r), o.print(r));
    int other = below(o.records.size());
    due("same", d.x.same(r, other) ? 1 : 0, o.same(r, other) ? 1 : 0);
  }
}
