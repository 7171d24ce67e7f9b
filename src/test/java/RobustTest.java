import java.util.NoSuchElementException;
import java.util.Random;

/** Random calls with any arguments in any state: nothing but what the document names is ever thrown. */
public final class RobustTest {
  static final int[] ODD = {0, 1, -1, 2, 3, 5, 7, 19, 20, 39, 40, 41, 60, 100, 400, 401, 2000, 2001, Integer.MAX_VALUE, Integer.MIN_VALUE, -100};
  static final String[] LINES = {"t", "t s", "t --o=5", "t --o", "t -c", "t --l 1,2,3", "k", "k k", "x", "t -- a b", "t s --q='a b' 5", "# x", "'", "t --oo"};
  static final String[] TOOLS = {"tool t opt o int short \"o\" default 3; opt c count short \"c\"; opt l list; rest r text; sub s opt q text; end; end;",
    "tool u end;", "tool x opt a one(p,q) need; end;", "tool", "tool t end;", "tool y opt b flag not c; end;"};

  public static void main(String[] args) {
    for (int seed = 0; seed < 3000; seed++) go(new Random(seed), seed);
    Desk.end();
  }

  static int odd(Random random) {
    return random.nextInt(4) == 0 ? random.nextInt() : ODD[random.nextInt(ODD.length)];
  }

  static void go(Random random, int seed) {
    Desk d = new Desk();
    for (int i = 0; i < 200; i++) {
      int call = random.nextInt(24);
      String got = "";
      int before = d.x.count(2);
      try {
        call(d, call, random);
      } catch (IllegalArgumentException e) {
        got = "argument";
      } catch (IllegalStateException e) {
        got = "state";
      } catch (NoSuchElementException e) {
        got = "element";
      } catch (RuntimeException e) {
        got = e.toString();
      }
      boolean fits = got.isEmpty() || (got.equals("argument") && (call <= 6 || call == 9 || call == 17))
          || (got.equals("state") && (call == 4 || call >= 20)) || (got.equals("element") && call >= 9 && call <= 14);
      Desk.due("seed " + seed + ", call " + call + " threw " + got, fits ? 1 : 0, 1);
      if (got.equals("argument")) Desk.due("the tape stays", d.x.count(2), before);
    }
  }

  static int call(Desk d, int call, Random random) {
    HarbourDesk x = d.x;
    int a = odd(random), b = odd(random), c = odd(random);
    switch (call) {
      case 0: return x.feed(a, b, c, a, b);
      case 1: return x.describe(a);
      case 2: return x.put(b, a);
      case 3: return x.clear(a);
      case 4: return x.run(a);
      case 5: return x.ends(a);
      case 6: return x.show(random.nextInt(3), a);
      case 7: return x.blame(a);
      case 8: return x.word(a, b);
      case 9: return x.record(a, b);
      case 10: return x.source(a, b);
      case 11: return x.value(a, b);
      case 12: return x.item(a, b, c);
      case 13: return x.same(a, b) ? 1 : 0;
      case 14: return x.print(a);
      case 15: return x.octet(a);
      case 16: return x.count(a);
      case 17: return x.show(a, b);
      case 18: return x.fault();
      case 19: return x.count(2) > 1500 ? x.describe(0) : d.describe(TOOLS[random.nextInt(TOOLS.length)]);
      case 20: return x.count(2) > 0 ? x.put(0, 0) : d.put(random.nextInt(3), random.nextInt(2) == 0 ? "k=t -c" : "t.o=7");
      default:
        String line = LINES[random.nextInt(LINES.length)];
        if (x.count(2) > 0) x.put(0, 0);
        return random.nextInt(3) == 0 ? d.ends(line) : d.run(line);
    }
  }
}
