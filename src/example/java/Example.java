/** Describes a tool, runs lines, and asks for what they have made. */
public class Example {
  private static final int ENVIRONMENT = 0;
  private static final int SETTINGS = 1;
  private static final int ALIAS = 2;
  private static final int END = 0;
  private static final int NEAR = 1;

  private final HarbourDesk desk = new HarbourDesk();

  /** Puts a text on the tape, with blanks up to a multiple of twenty; answers the text's own length. */
  private int feed(String text) {
    for (int start = 0; start < text.length(); start += 20) {
      int[] five = new int[5];
      for (int k = 0; k < 20; k++) {
        int sign = start + k < text.length() ? text.charAt(start + k) : ' ';
        five[k / 4] = five[k / 4] << 8 | sign;
      }
      desk.feed(five[0], five[1], five[2], five[3], five[4]);
    }
    return text.length();
  }

  private String page() {
    StringBuilder text = new StringBuilder();
    for (int k = 0; k < desk.count(3); k++) {
      text.append((char) desk.octet(k));
    }
    return text.toString();
  }

  private void describe(String text) {
    int tool = desk.describe(feed(text));
    if (tool >= 0) {
      System.out.println("tool " + tool);
    } else {
      System.out.println("fault " + (tool + 10) + " at byte " + desk.fault());
    }
  }

  private void run(String text) {
    int record = desk.run(feed(text));
    if (record >= 0) {
      desk.print(record);
      System.out.println("record " + record + ": " + page());
      return;
    }
    System.out.println("blame " + desk.blame(0) + ", word " + desk.blame(1) + ", place " + desk.blame(2)
        + ", option " + desk.blame(3));
    for (int k = 0; desk.show(NEAR, k) != HarbourDesk.NONE; k++) {
      System.out.println("  near: " + page());
    }
  }

  private void ends(String text) {
    System.out.println("ends: " + desk.ends(feed(text)));
    for (int k = 0; desk.show(END, k) != HarbourDesk.NONE; k++) {
      System.out.println("  " + page());
    }
  }

  public static void main(String[] args) {
    Example example = new Example();
    HarbourDesk desk = example.desk;
    example.describe("tool berth opt ship text short \"s\" need env ship; opt draft int min 1 max 30 default 5;"
        + " sub move opt to one (north, south); opt dry flag; rest why text; end; end;");
    example.describe("tool crane opt load int min 9 max 5; end;");

    desk.put(SETTINGS, example.feed("berth.move.dry=true"));
    desk.put(ALIAS, example.feed("mv=berth move"));
    example.run("mv -s 'Sea Star' --to=north wind # the rest is a comment");
    System.out.println("  source of dry " + desk.source(0, 3) + ", value of draft " + desk.value(0, 1)
        + ", first byte of ship " + desk.item(0, 0, 0));

    example.run("berth --drift=7");
    example.run("berth --draft 31");
    desk.put(ENVIRONMENT, example.feed("ship=Gull"));
    example.run("berth --draft 31");
    example.run("berth --draft 30");

    example.ends("berth ");
    example.ends("mv --to s");
  }
}
