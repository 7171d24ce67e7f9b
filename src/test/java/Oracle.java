import java.time.DateTimeException;
import java.time.LocalDate;
import java.util.ArrayList;
import java.util.Arrays;
import java.util.HashSet;
import java.util.LinkedHashMap;
import java.util.List;
import java.util.Map;
import java.util.Set;
import java.util.TreeSet;
import java.util.regex.Matcher;
import java.util.regex.Pattern;

/** The document a second time, written over texts and the Java library, to be held against HarbourDesk. */
final class Oracle {
  static final Set<String> WORDS = new HashSet<>(Arrays.asList(("tool sub opt rest flag count int text day one list short need "
      + "hidden min max default env not with end no").split(" ")));

  static final class Stop extends RuntimeException {
    final int code;
    final int[] more;
    Stop(int code, int... more) { super(null, null, false, false); this.code = code; this.more = more; }
  }

  static final class Opt {
    String name, sort, shortSign, env, defaultText;
    List<String> path;
    int number;
    final List<String> names = new ArrayList<>();
    final Set<String> marks = new HashSet<>();
    final List<String> nots = new ArrayList<>(), withs = new ArrayList<>();
    Long min, max;
    boolean takes() { return !sort.equals("flag") && !sort.equals("count"); }
    boolean beyond(long v) { return min != null && v < min || max != null && v > max; }
  }

  static final class Spot {
    final List<String> path;
    String rest, restSort;
    boolean restNeed;
    Spot(List<String> path) { this.path = path; }
  }

  static final class ToolOf {
    String name;
    final List<Opt> opts = new ArrayList<>();
    final List<Spot> spots = new ArrayList<>();
    Spot spot(List<String> path) {
      for (Spot s : spots) if (s.path.equals(path)) return s;
      return null;
    }
  }

  static final class Rec {
    ToolOf tool;
    List<String> path;
    final Map<Integer, Integer> sources = new LinkedHashMap<>();
    final Map<Integer, Object> values = new LinkedHashMap<>();
    final List<String> rest = new ArrayList<>();
  }

  final List<ToolOf> tools = new ArrayList<>();
  final List<Map<String, String>> rows = List.of(new LinkedHashMap<>(), new LinkedHashMap<>(), new LinkedHashMap<>());
  final List<Rec> records = new ArrayList<>();
  List<String> ends = new ArrayList<>(), near = new ArrayList<>(), words = new ArrayList<>();
  int faultPlace = -1;
  int[] blames = {0, -1, -1, -1, -1, 0};

  // ---- descriptions

  static final Pattern TOKEN = Pattern.compile("([a-z][a-z0-9-]*)|(-?[0-9]+)|(\"[ !#-~]*\")|([;(),])");
  private String text;
  private int at, begin;
  private String token, kind;
  private ToolOf made;
  private List<Object[]> links;

  int describe(String description) {
    text = description;
    at = 0;
    faultPlace = -1;
    made = new ToolOf();
    links = new ArrayList<>();
    try {
      next();
      expect("tool");
      need("name");
      for (ToolOf t : tools) if (t.name.equals(token)) fault(2);
      if (tools.size() == 12) fault(4);
      made.name = token;
      place(List.of(token), 0);
      if (!kind.equals("end of text")) fault(1);
      for (Object[] link : links) {
        Opt owner = (Opt) link[0];
        boolean there = false;
        for (Opt o : made.opts) there |= o != owner && o.name.equals(link[1]) && startsWith(owner.path, o.path);
        if (!there) throw new Stop(5, (Integer) link[2]);
      }
    } catch (Stop s) {
      faultPlace = s.more[0];
      return s.code - 10;
    }
    tools.add(made);
    return tools.size() - 1;
  }

  static boolean startsWith(List<String> path, List<String> head) {
    return path.size() >= head.size() && path.subList(0, head.size()).equals(head);
  }

  static boolean isName(String s) {
    return s.matches("[a-z]([a-z0-9-]{0,8}[a-z0-9])?") && !WORDS.contains(s);
  }

  private void next() {
    while (at < text.length() && (text.charAt(at) == ' ' || text.charAt(at) == '\n')) at++;
    begin = at;
    kind = "none";
    token = "";
    if (at == text.length()) { kind = "end of text"; return; }
    Matcher m = TOKEN.matcher(text).region(at, text.length());
    if (!m.lookingAt()) return;
    at = m.end();
    token = m.group();
    if (m.group(1) != null) kind = WORDS.contains(token) ? "word" : isName(token) ? "name" : "none";
    else if (m.group(2) != null) kind = token.matches("-?[0-9]{1,6}") ? "whole" : "none";
    else if (m.group(3) != null) kind = token.length() <= 14 ? "text" : "none";
    else kind = "sign";
  }

  private void fault(int code) { throw new Stop(code, begin); }
  private void need(String wanted) { if (!kind.equals(wanted)) fault(1); }
  private boolean is(String word) { return (kind.equals("word") || kind.equals("sign")) && token.equals(word); }
  private void expect(String word) { if (!is(word)) fault(1); next(); }

  private void place(List<String> path, int depth) {
    next();
    Spot spot = new Spot(path);
    made.spots.add(spot);
    while (!is("end")) {
      if (is("opt")) option(spot);
      else if (is("rest")) rest(spot);
      else if (is("sub")) {
        if (made.spots.size() == 17 || depth == 3) fault(4);
        next();
        need("name");
        List<String> inner = new ArrayList<>(path);
        inner.add(token);
        if (made.spot(inner) != null) fault(2);
        place(inner, depth + 1);
      } else fault(1);
    }
    next();
    expect(";");
  }

  private void freeName(Spot spot) {
    need("name");
    if (token.startsWith("no-")) fault(2);
    for (Opt o : made.opts) if (o.name.equals(token) && related(o.path, spot.path)) fault(2);
    for (Spot s : made.spots) if (token.equals(s.rest) && related(s.path, spot.path)) fault(2);
  }

  private static boolean related(List<String> a, List<String> b) { return startsWith(a, b) || startsWith(b, a); }

  private void rest(Spot spot) {
    if (spot.rest != null) fault(4);
    next();
    freeName(spot);
    spot.rest = token;
    next();
    if (!is("text") && !is("int")) fault(1);
    spot.restSort = token;
    next();
    if (is("need")) { spot.restNeed = true; next(); }
    expect(";");
  }

  private void option(Spot spot) {
    if (made.opts.size() == 40) fault(4);
    next();
    freeName(spot);
    Opt o = new Opt();
    o.name = token;
    o.path = spot.path;
    o.number = made.opts.size();
    made.opts.add(o);
    next();
    if (!kind.equals("word") || !Arrays.asList("flag", "count", "int", "text", "day", "list", "one").contains(token)) fault(1);
    o.sort = token;
    next();
    if (o.sort.equals("one")) {
      if (!is("(")) fault(1);
      do {
        next();
        need("name");
        if (o.names.contains(token)) fault(2);
        if (o.names.size() == 8) fault(4);
        o.names.add(token);
        next();
      } while (is(","));
      expect(")");
    }
    while (!is(";")) mark(o);
    next();
  }

  private void mark(Opt o) {
    if (!kind.equals("word")) fault(1);
    String mark = token;
    boolean bounds = o.sort.equals("int") || o.sort.equals("list");
    switch (mark) {
      case "not": case "with":
        List<String> to = mark.equals("not") ? o.nots : o.withs;
        if (to.size() == 2) fault(4);
        next();
        need("name");
        to.add(token);
        links.add(new Object[] {o, token, begin});
        next();
        return;
      case "short": case "need": case "hidden": case "min": case "max": case "default": case "env": break;
      default: fault(1);
    }
    if (!o.marks.add(mark)) fault(3);
    if (mark.equals("need") && o.marks.contains("default") || mark.equals("default") && o.marks.contains("need")) fault(3);
    if ((mark.equals("min") || mark.equals("max")) && !bounds) fault(3);
    if (mark.equals("default") && (!o.takes() || o.sort.equals("list"))) fault(3);
    next();
    switch (mark) {
      case "short":
        need("text");
        String sign = token.substring(1, token.length() - 1);
        for (Opt other : made.opts) if (sign.equals(other.shortSign) && related(other.path, o.path)) fault(2);
        if (!sign.matches("[a-zA-Z]")) fault(3);
        o.shortSign = sign;
        next();
        break;
      case "min": case "max":
        need("whole");
        if (mark.equals("min")) o.min = Long.parseLong(token);
        else o.max = Long.parseLong(token);
        if (o.min != null && o.max != null && o.min > o.max) fault(3);
        if (o.defaultText != null && o.beyond(Long.parseLong(o.defaultText))) fault(3);
        next();
        break;
      case "default":
        if (!kind.equals("whole") && !kind.equals("text") && !kind.equals("name")) fault(1);
        String value = kind.equals("text") ? token.substring(1, token.length() - 1) : token;
        switch (o.sort) {
          case "int": if (!kind.equals("whole") || o.beyond(Long.parseLong(value))) fault(3); break;
          case "one": if (!kind.equals("name") || !o.names.contains(value)) fault(3); break;
          case "text": if (!kind.equals("text")) fault(3); break;
          default: if (!kind.equals("text") || day(value) == null) fault(3);
        }
        o.defaultText = value;
        next();
        break;
      case "env":
        need("name");
        o.env = token;
        next();
        break;
      default:
    }
  }

  static Integer day(String s) {
    if (!s.matches("[0-9]{4}-[0-9]{2}-[0-9]{2}")) return null;
    try {
      LocalDate d = LocalDate.of(Integer.parseInt(s.substring(0, 4)), Integer.parseInt(s.substring(5, 7)), Integer.parseInt(s.substring(8)));
      return d.getYear() < 1600 || d.getYear() > 2399 ? null : (int) d.toEpochDay();
    } catch (DateTimeException e) {
      return null;
    }
  }

  static Integer number(String s) {
    if (!s.matches("-?[0-9]{1,10}")) return null;
    long n = Long.parseLong(s);
    return n == (int) n ? (int) n : null;
  }

  // ---- rows

  int put(int sort, String row) {
    int split = row.indexOf('=');
    if (split < 0) return 0;
    String key = row.substring(0, split), value = row.substring(split + 1);
    String[] names = key.split("\\.", -1);
    if (names.length > (sort == 1 ? 6 : 1)) return 0;
    for (String name : names) if (!isName(name)) return 0;
    if (value.length() > 60 || !value.matches("[ -~]*")) return 0;
    if (sort == 2) {
      try {
        cut(value, new boolean[2]);
      } catch (Stop s) {
        return 0;
      }
    }
    Map<String, String> all = rows.get(sort);
    if (all.size() == 20) return 0;
    all.put(key, value);
    return 1;
  }

  int clear(int sort) {
    int n = rows.get(sort).size();
    rows.get(sort).clear();
    return n;
  }

  // ---- lines

  /** how[0]: the last WORD reaches the end; how[1]: there is a comment. */
  static List<String> cut(String line, boolean[] how) {
    List<String> all = new ArrayList<>();
    int i = 0, n = line.length();
    while (true) {
      while (i < n && (line.charAt(i) == ' ' || line.charAt(i) == '\n')) i++;
      if (i == n) return all;
      if (line.charAt(i) == '#') { how[1] = true; return all; }
      int begin = i, open = -1;
      if (all.size() == 60) throw new Stop(2, -1, begin, -1, -1);
      char quote = 0;
      StringBuilder word = new StringBuilder();
      for (; i < n; i++) {
        char c = line.charAt(i);
        if (quote == 0 && (c == ' ' || c == '\n')) break;
        if (quote == 0 && (c == '\'' || c == '"')) { quote = c; open = i; continue; }
        if (quote != 0 && c == quote) { quote = 0; continue; }
        if (c == '\\' && quote != '\'') {
          if (i + 1 == n) throw new Stop(1, -1, quote == 0 ? i : open, -1, -1);
          c = line.charAt(++i);
        }
        if (c < 32 && c != 10 || c > 126) throw new Stop(1, -1, i, -1, -1);
        word.append(c);
        if (word.length() > 40) throw new Stop(2, -1, begin, -1, -1);
      }
      if (quote != 0) throw new Stop(1, -1, open, -1, -1);
      all.add(word.toString());
      how[0] = i == n;
    }
  }

  private ToolOf tool;
  private List<String> path;
  private Rec rec;
  private Opt waiting;
  private boolean dashes, onlyNames;

  int run(String line) {
    ends = new ArrayList<>();
    near = new ArrayList<>();
    words = new ArrayList<>();
    try {
      words = cut(line, new boolean[2]);
      putAliases(60);
      if (words.isEmpty()) throw new Stop(4, -1, 0, -1, -1);
      List<Object[]> values = bind(false);
      for (Object[] v : values) {
        int i = (Integer) v[0];
        String given = (String) v[2];
        if (v[1] == null) {
          if (tool.spot(path).restSort.equals("int") && number(given) == null) throw new Stop(11, i, 0, -1, -1);
        } else {
          Opt o = (Opt) v[1];
          if (!read(o, given)) throw new Stop(11, i, 0, o.number, -1);
        }
      }
      fill();
      check();
    } catch (Stop s) {
      return blamed(s);
    }
    blames = new int[] {0, -1, -1, -1, -1, words.size()};
    records.add(rec);
    return records.size() - 1;
  }

  private int blamed(Stop s) {
    if (s.code <= 2) words = new ArrayList<>();
    blames = new int[] {s.code, s.more[0], s.more[1], s.more[2], s.more[3], words.size()};
    return s.code - 20;
  }

  private void putAliases(int most) {
    Set<String> used = new HashSet<>();
    while (!words.isEmpty() && rows.get(2).containsKey(words.get(0))) {
      if (!used.add(words.get(0))) throw new Stop(3, 0, 0, -1, -1);
      List<String> now = new ArrayList<>(cut(rows.get(2).get(words.get(0)), new boolean[2]));
      now.addAll(words.subList(1, words.size()));
      words = now;
      if (words.size() > most) throw new Stop(2, -1, 0, -1, -1);
    }
  }

  private Opt named(String name) {
    for (Opt o : tool.opts) if (o.name.equals(name) && startsWith(path, o.path)) return o;
    return null;
  }

  private List<Object[]> bind(boolean forEnds) {
    tool = null;
    for (ToolOf t : tools) if (t.name.equals(words.get(0))) tool = t;
    if (tool == null) {
      List<String> names = new ArrayList<>();
      for (ToolOf t : tools) names.add(t.name);
      findNear(names, words.get(0));
      throw new Stop(5, 0, 0, -1, -1);
    }
    path = new ArrayList<>(List.of(tool.name));
    int i = 1;
    while (i < words.size()) {
      List<String> inner = new ArrayList<>(path);
      inner.add(words.get(i));
      if (tool.spot(inner) == null) break;
      path = inner;
      i++;
    }
    onlyNames = i == words.size();
    rec = new Rec();
    rec.tool = tool;
    rec.path = path;
    waiting = null;
    dashes = false;
    List<Object[]> values = new ArrayList<>();
    for (; i < words.size(); i++) {
      String w = words.get(i);
      if (!dashes && w.equals("--")) { dashes = true; continue; }
      if (dashes || !w.startsWith("--") && !w.matches("(?s)-[a-zA-Z].*")) {
        if (tool.spot(path).rest == null) throw new Stop(10, i, 0, -1, -1);
        rec.rest.add(w);
        values.add(new Object[] {i, null, w});
        continue;
      }
      Opt taker = null;
      String given = null;
      int k = 2;
      if (w.startsWith("--")) {
        int eq = w.indexOf('=');
        String x = eq < 0 ? w.substring(2) : w.substring(2, eq);
        if (eq >= 0) given = w.substring(eq + 1);
        Opt o = named(x);
        int told = 1;
        if (o == null && x.startsWith("no-") && named(x.substring(3)) != null && named(x.substring(3)).sort.equals("flag")) {
          o = named(x.substring(3));
          told = 0;
        }
        if (o == null) {
          List<String> names = new ArrayList<>();
          for (Opt p : tool.opts) if (startsWith(path, p.path)) names.add(p.name);
          findNear(names, x);
          throw new Stop(6, i, 2, -1, -1);
        }
        if (o.takes()) taker = o;
        else if (eq >= 0) throw new Stop(7, i, 2, o.number, -1);
        else tell(o, told);
      } else {
        for (k = 1; k < w.length() && taker == null; k++) {
          Opt o = null;
          for (Opt p : tool.opts) if (w.substring(k, k + 1).equals(p.shortSign) && startsWith(path, p.path)) o = p;
          if (o == null) throw new Stop(6, i, k, -1, -1);
          if (!o.takes()) tell(o, 1);
          else {
            taker = o;
            if (k + 1 < w.length()) given = w.substring(k + 1);
          }
        }
        k--;
      }
      if (taker == null) continue;
      boolean lacks = given == null && i + 1 == words.size();
      if (lacks && !forEnds) throw new Stop(8, i, k, taker.number, -1);
      if (rec.sources.containsKey(taker.number) && !taker.sort.equals("list")) throw new Stop(9, i, k, taker.number, -1);
      rec.sources.put(taker.number, 0);
      if (given != null) values.add(new Object[] {i, taker, given});
      else if (i + 1 < words.size()) values.add(new Object[] {++i, taker, words.get(i)});
      else waiting = taker;
    }
    return values;
  }

  private void tell(Opt o, int told) {
    rec.sources.put(o.number, 0);
    rec.values.put(o.number, o.sort.equals("flag") ? told : (Integer) rec.values.getOrDefault(o.number, 0) + 1);
  }

  @SuppressWarnings("unchecked")
  private boolean read(Opt o, String given) {
    Object v = null;
    switch (o.sort) {
      case "int": v = number(given); break;
      case "text": v = given; break;
      case "day": v = day(given); break;
      case "one": v = o.names.contains(given) ? (Integer) o.names.indexOf(given) : null; break;
      default:
        List<Integer> list = new ArrayList<>((List<Integer>) rec.values.getOrDefault(o.number, new ArrayList<Integer>()));
        for (String part : given.split(",", -1)) {
          if (number(part) == null) return false;
          list.add(number(part));
        }
        if (list.size() > 10) return false;
        v = list;
    }
    rec.values.put(o.number, v);
    return v != null;
  }

  private void fill() {
    for (Opt o : tool.opts) {
      if (!startsWith(path, o.path) || rec.sources.containsKey(o.number)) continue;
      String key = String.join(".", o.path) + "." + o.name;
      String row = o.env == null ? null : rows.get(0).get(o.env);
      int source = 1;
      if (row == null) { row = rows.get(1).get(key); source = 2; }
      if (row != null) {
        boolean fits;
        if (o.sort.equals("flag")) {
          fits = row.equals("true") || row.equals("false");
          rec.values.put(o.number, row.equals("true") ? 1 : 0);
        } else if (o.sort.equals("count")) {
          fits = row.matches("[0-9]{1,2}") && Integer.parseInt(row) >= 1 && Integer.parseInt(row) <= 20;
          if (fits) rec.values.put(o.number, Integer.parseInt(row));
        } else fits = read(o, row);
        if (!fits) throw new Stop(12, -1, 0, o.number, source);
        rec.sources.put(o.number, source);
      } else if (o.defaultText != null) {
        read(o, o.defaultText);
        rec.sources.put(o.number, 3);
      } else {
        rec.sources.put(o.number, 4);
        rec.values.put(o.number, o.sort.equals("text") ? "" : o.sort.equals("list") ? new ArrayList<Integer>() : (Object) 0);
      }
    }
  }

  private void check() {
    for (Opt o : tool.opts) {
      if (!startsWith(path, o.path)) continue;
      int source = rec.sources.get(o.number);
      Object v = rec.values.get(o.number);
      if (o.marks.contains("need") && source == 4) throw new Stop(13, -1, 0, o.number, -1);
      if (o.sort.equals("int") && source != 4 && o.beyond((Integer) v)) throw new Stop(14, -1, 0, o.number, -1);
      if (o.sort.equals("list")) for (Object each : (List<?>) v) if (o.beyond((Integer) each)) throw new Stop(14, -1, 0, o.number, -1);
      for (String name : o.nots) if (source < 3 && rec.sources.get(named(name).number) < 3) throw new Stop(15, -1, 0, o.number, -1);
      for (String name : o.withs) if (source < 3 && rec.sources.get(named(name).number) >= 3) throw new Stop(16, -1, 0, o.number, -1);
    }
    if (tool.spot(path).restNeed && rec.rest.isEmpty()) throw new Stop(17, -1, 0, -1, -1);
  }

  private void findNear(List<String> names, String blamed) {
    int least = 3;
    for (String name : names) least = Math.min(least, changes(name, blamed));
    if (least <= 2) for (String name : names) if (changes(name, blamed) == least) near.add(name);
  }

  static int changes(String a, String b) {
    int[][] t = new int[a.length() + 1][b.length() + 1];
    for (int i = 0; i <= a.length(); i++) {
      for (int j = 0; j <= b.length(); j++) {
        if (i == 0 || j == 0) t[i][j] = i + j;
        else t[i][j] = Math.min(t[i - 1][j - 1] + (a.charAt(i - 1) == b.charAt(j - 1) ? 0 : 1), 1 + Math.min(t[i - 1][j], t[i][j - 1]));
      }
    }
    return t[a.length()][b.length()];
  }

  int ends(String line) {
    ends = new ArrayList<>();
    near = new ArrayList<>();
    words = new ArrayList<>();
    List<String> could = new ArrayList<>();
    String stem = "";
    boolean[] how = new boolean[2];
    try {
      words = cut(line, how);
      if (how[0]) stem = words.remove(words.size() - 1);
      if (!how[1] && words.size() + 1 > 60) throw new Stop(2, -1, line.length(), -1, -1);
      putAliases(how[1] ? 60 : 59);
      if (words.isEmpty()) {
        for (ToolOf t : tools) could.add(t.name);
        could.addAll(rows.get(2).keySet());
      } else {
        bind(true);
        if (waiting != null) could.addAll(waiting.names);
        else {
          if (onlyNames) for (Spot s : tool.spots) if (s.path.size() == path.size() + 1 && startsWith(s.path, path)) could.add(s.path.get(path.size()));
          for (Opt o : tool.opts) {
            if (dashes || !startsWith(path, o.path) || o.marks.contains("hidden")) continue;
            if (!o.takes() || o.sort.equals("list") || !rec.sources.containsKey(o.number)) could.add("--" + o.name);
          }
        }
      }
    } catch (Stop s) {
      return blamed(s);
    }
    blames = new int[] {0, -1, -1, -1, -1, words.size()};
    if (!how[1]) for (String one : could) if (one.startsWith(stem)) ends.add(one);
    return ends.size();
  }

  // ---- records

  int value(int r, int option) {
    Object v = records.get(r).values.get(option);
    if (v == null) return 0;
    if (v instanceof String) return ((String) v).length();
    return v instanceof List ? ((List<?>) v).size() : (Integer) v;
  }

  int item(int r, int option, int k) {
    Object v = records.get(r).values.get(option);
    if (option == -1) {
      List<String> rest = records.get(r).rest;
      return k < 0 || k / 100 >= rest.size() || k % 100 >= rest.get(k / 100).length() ? 0 : rest.get(k / 100).charAt(k % 100);
    }
    if (v instanceof String) return k >= 0 && k < ((String) v).length() ? ((String) v).charAt(k) : 0;
    if (v instanceof List) return k >= 0 && k < ((List<?>) v).size() ? (Integer) ((List<?>) v).get(k) : 0;
    return 0;
  }

  boolean same(int a, int b) {
    Rec x = records.get(a), y = records.get(b);
    return x.path.equals(y.path) && x.values.equals(y.values) && x.rest.equals(y.rest);
  }

  static String quoted(String s) {
    return s.matches("[a-zA-Z0-9_.,/:+-]+") ? s : "'" + s.replace("'", "'\\''") + "'";
  }

  String print(int r) {
    Rec rec = records.get(r);
    List<String> out = new ArrayList<>(rec.path);
    for (int i : new TreeSet<>(rec.sources.keySet())) {
      if (rec.sources.get(i) > 2) continue;
      Opt o = rec.tool.opts.get(i);
      Object v = rec.values.get(i);
      switch (o.sort) {
        case "flag": out.add(v.equals(1) ? "--" + o.name : "--no-" + o.name); break;
        case "count": for (int k = 0; k < (Integer) v; k++) out.add("--" + o.name); break;
        case "one": out.add("--" + o.name + "=" + o.names.get((Integer) v)); break;
        case "day": out.add("--" + o.name + "=" + LocalDate.ofEpochDay((Integer) v)); break;
        case "list": out.add("--" + o.name + "=" + v.toString().replaceAll("[\\[\\] ]", "")); break;
        default: out.add("--" + o.name + "=" + quoted(v.toString()));
      }
    }
    if (!rec.rest.isEmpty()) out.add("--");
    for (String w : rec.rest) out.add(quoted(w));
    return String.join(" ", out);
  }
}
