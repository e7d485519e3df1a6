/** For each promise of the document: ordinary inputs, the edges that it names, and wrong inputs. */
public final class PromiseTest {
  private static final long BEYOND = -1000000001L;
  private static final long FULL = -1000000002L;
  private static final long KIND = -1000000003L;
  private static final long NONE = -1000000004L;
  private static final long STATE = -1000000005L;
  private static final long MISSING = -1000000006L;
  private static final long SIZE = -1000000007L;

  private static final int[] EXTREMES = {Integer.MIN_VALUE, -2, 100, Integer.MAX_VALUE};

  private static int wrong = 0;
  private static int asked = 0;

  private static void due(int promise, String call, long got, long want) {
    asked++;
    if (got != want) {
      wrong++;
      System.out.println("promise " + promise + ": " + call + " answered " + got + ", due is " + want);
    }
  }

  /** Feeds a text whole, four bytes at a time. */
  private static void tell(GlintNets x, String text) {
    for (int i = 0; i < text.length(); i += 4) {
      int n = Math.min(4, text.length() - i);
      int bytes = 0;
      for (int k = 0; k < n; k++) {
        bytes = bytes << 8 | text.charAt(i + k) & 255;
      }
      x.feed(bytes, n);
    }
  }

  private static int lakeOf(GlintNets x, String text) {
    x.wipe();
    tell(x, text);
    return x.lake();
  }

  /** A new lake at an hour. */
  private static GlintNets at(int hour) {
    GlintNets x = new GlintNets();
    pass(x, hour);
    return x;
  }

  private static void pass(GlintNets x, int hours) {
    int left = hours;
    while (left > 0) {
      int n = Math.min(60, left);
      x.hours(n);
      left -= n;
    }
  }

  public static void main(String[] args) {
    newObject();
    wind();
    cell();
    thing();
    of();
    reachByTheHour();
    shine();
    taxed();
    set();
    turn();
    as();
    boat();
    told();
    fit();
    hours();
    holdAndCoinsAreHeld();
    lastHour();
    now();
    on();
    light();
    full();
    dark();
    brightest();
    spot();
    time();
    net();
    gives();
    kind();
    rival();
    way();
    feed();
    wipe();
    lake();
    lakeFaults();
    lakeLimits();
    sheet();
    write();
    copy();
    lays();
    book();
    read();
    image();
    undo();
    tear();
    count();
    status();
    findingsChangeNothing();
    fullLake();
    System.out.println(wrong == 0 ? asked + " answers are as due" : wrong + " answers are not as due");
    if (wrong != 0) {
      System.exit(1);
    }
  }

  private static void newObject() {
    GlintNets x = new GlintNets();
    for (int what = 0; what <= 4; what++) {
      due(1, "count(" + what + ")", x.count(what), 0);
    }
    for (int what = 0; what <= 6; what++) {
      due(1, "now(" + what + ")", x.now(what), 0);
    }
    for (int which = -1; which <= 6; which++) {
      due(1, "status(" + which + ")", x.status(which), 0);
    }
    for (int s = 0; s < 4; s++) {
      due(1, "lays(" + s + ")", x.lays(s), MISSING);
    }
    due(1, "undo()", x.undo(), NONE);
    due(1, "tear()", x.tear(), 0);
  }

  private static void wind() {
    GlintNets x = new GlintNets();
    due(2, "wind(0, 255)", x.wind(0, 255), 0);
    due(2, "wind(0, 5)", x.wind(0, 5), 255);
    due(2, "now(2)", x.now(2), 5);
    due(2, "wind(1, 1)", x.wind(1, 1), 0);
    due(2, "wind(1, 1)", x.wind(1, 1), 1);
    due(2, "now(3)", x.now(3), 1);
    due(2, "wind(0, 256)", x.wind(0, 256), BEYOND);
    due(2, "wind(0, -1)", x.wind(0, -1), BEYOND);
    due(2, "wind(1, 2)", x.wind(1, 2), BEYOND);
    due(2, "wind(1, -1)", x.wind(1, -1), BEYOND);
    due(2, "wind(2, 0)", x.wind(2, 0), BEYOND);
    due(2, "wind(-1, 0)", x.wind(-1, 0), BEYOND);
    due(2, "now(2)", x.now(2), 5);
    due(2, "now(3)", x.now(3), 1);
  }

  private static void cell() {
    GlintNets x = new GlintNets();
    x.thing(0, 2, 2);
    x.thing(3, 2, 1);
    x.thing(2, 2, 6);
    x.boat(10);
    x.boat(2);
    x.boat(10);
    due(3, "cell(2, 0)", x.cell(2, 0), 60);
    due(3, "cell(10, 0)", x.cell(10, 0), 30);
    due(3, "cell(18, 0)", x.cell(18, 0), 6);
    due(3, "cell(42, 0)", x.cell(42, 0), 3);
    due(3, "cell(3, 0)", x.cell(3, 0), 0);
    due(3, "cell(2, 1)", x.cell(2, 1), 3);
    due(3, "cell(18, 1)", x.cell(18, 1), 2);
    due(3, "cell(10, 2)", x.cell(10, 2), 5);
    due(3, "cell(2, 2)", x.cell(2, 2), 2);
    due(3, "cell(3, 2)", x.cell(3, 2), 0);
    due(3, "cell(2, 3)", x.cell(2, 3), 1);
    due(3, "cell(18, 3)", x.cell(18, 3), 0);
    x.wind(0, 4);
    due(3, "cell(2, 0) with ripples", x.cell(2, 0), 20);
    x.set(0, 3, 41);
    due(3, "cell(2, 0) with ripples", x.cell(2, 0), 20);
    due(3, "cell(10, 0) with ripples", x.cell(10, 0), 10);
    due(3, "cell(2, 1) with ripples", x.cell(2, 1), 3);
    x.wind(1, 1);
    due(3, "cell(2, 0) in fog", x.cell(2, 0), 0);
    due(3, "cell(2, 1) in fog", x.cell(2, 1), 3);
    due(3, "cell(2, 3) in fog", x.cell(2, 3), 1);
    due(3, "cell(-1, 0)", x.cell(-1, 0), BEYOND);
    due(3, "cell(48, 0)", x.cell(48, 0), BEYOND);
    due(3, "cell(0, -1)", x.cell(0, -1), BEYOND);
    due(3, "cell(0, 4)", x.cell(0, 4), BEYOND);
  }

  private static void thing() {
    GlintNets x = new GlintNets();
    due(4, "thing(-1, 0, 1)", x.thing(-1, 0, 1), BEYOND);
    due(4, "thing(6, 0, 1)", x.thing(6, 0, 1), BEYOND);
    due(4, "thing(0, -1, 1)", x.thing(0, -1, 1), BEYOND);
    due(4, "thing(0, 8, 1)", x.thing(0, 8, 1), BEYOND);
    due(4, "thing(0, 0, 0)", x.thing(0, 0, 0), BEYOND);
    due(4, "thing(0, 0, 7)", x.thing(0, 0, 7), BEYOND);
    due(4, "count(0)", x.count(0), 0);
    for (int i = 0; i < 8; i++) {
      due(4, "thing(5, 7, 6)", x.thing(5, 7, 6), i);
    }
    due(4, "thing(0, 0, 1), the ninth", x.thing(0, 0, 1), FULL);
    due(4, "thing(0, 0, 7), the ninth", x.thing(0, 0, 7), BEYOND);
    due(4, "count(0)", x.count(0), 8);
    due(4, "of(7, 0)", x.of(7, 0), 5);
    due(4, "of(7, 1)", x.of(7, 1), 7);
    due(4, "of(7, 2)", x.of(7, 2), 6);
    due(4, "of(7, 3)", x.of(7, 3), 40);
    due(4, "of(7, 4)", x.of(7, 4), 1);
  }

  private static void of() {
    GlintNets x = new GlintNets();
    due(5, "of(0, 0)", x.of(0, 0), BEYOND);
    x.thing(4, 3, 5);
    due(5, "of(0, 0)", x.of(0, 0), 4);
    due(5, "of(0, 1)", x.of(0, 1), 3);
    due(5, "of(0, 2)", x.of(0, 2), 5);
    due(5, "of(0, 3)", x.of(0, 3), 40);
    due(5, "of(0, 4)", x.of(0, 4), 1);
    due(5, "of(0, 5)", x.of(0, 5), 6);
    due(5, "of(0, 6)", x.of(0, 6), 1);
    due(5, "of(0, 7)", x.of(0, 7), 40 + 21 + 15 + 13 + 12 + 11);
    x.wind(0, 255);
    x.wind(1, 1);
    due(5, "of(0, 7) in wind and fog", x.of(0, 7), 112);
    due(5, "of(0, -1)", x.of(0, -1), BEYOND);
    due(5, "of(0, 8)", x.of(0, 8), BEYOND);
    due(5, "of(1, 0)", x.of(1, 0), BEYOND);
    due(5, "of(-1, 0)", x.of(-1, 0), BEYOND);
  }

  /** REACH of all kinds at every hour of two days. */
  private static void reachByTheHour() {
    GlintNets x = new GlintNets();
    for (int kind = 0; kind < 6; kind++) {
      x.thing(kind, 0, 4);
    }
    for (int hour = 0; hour < 48; hour++) {
      int clock = hour % 24;
      String at = " at hour " + hour;
      boolean day = clock >= 8 && clock <= 17;
      boolean night = clock <= 5 || clock >= 18;
      due(5, "of(0, 5)" + at, x.of(0, 5), 4);
      due(5, "of(1, 5)" + at, x.of(1, 5), 5);
      due(5, "of(2, 5)" + at, x.of(2, 5), day ? 4 : 0);
      due(5, "of(3, 5)" + at, x.of(3, 5), night ? 6 : 0);
      due(5, "of(4, 5)" + at, x.of(4, 5), hour % 2 == 0 ? 5 : 2);
      due(5, "of(5, 5)" + at, x.of(5, 5), day ? 4 : 0);
      x.hours(1);
    }
    x.set(1, 2, 6);
    x.set(4, 2, 6);
    due(5, "of(1, 5), height 6", x.of(1, 5), 6);
    due(5, "of(4, 5), height 6", x.of(4, 5), 6);
    x.hours(1);
    due(5, "of(4, 5), height 6, odd hour", x.of(4, 5), 3);
    x.set(4, 2, 1);
    due(5, "of(4, 5), height 1, odd hour", x.of(4, 5), 1);
  }

  private static void shine() {
    // Light 7 by 1 to 6: 7, 3, 2, 1, 1, 1.
    GlintNets x = at(8);
    for (int kind = 0; kind < 6; kind++) {
      x.thing(kind, kind, 6);
      x.set(kind, 3, 7);
    }
    due(5, "of(0, 7)", x.of(0, 7), 15);
    due(5, "of(1, 7)", x.of(1, 7), 15);
    due(5, "of(2, 7)", x.of(2, 7), 30);
    due(5, "of(3, 7) by day", x.of(3, 7), 0);
    due(5, "of(4, 7)", x.of(4, 7), 15 + 15);
    due(5, "of(5, 7)", x.of(5, 7), 30 + 18);
    pass(x, 10);
    for (int kind = 0; kind < 6; kind++) {
      x.set(kind, 3, 7);
    }
    due(5, "of(3, 7) by night", x.of(3, 7), 3 + 1 + 1);
    due(5, "of(2, 7) by night", x.of(2, 7), 0);
    x = at(8);
    x.thing(5, 0, 6);
    x.thing(4, 1, 6);
    x.set(0, 3, 0);
    x.set(1, 3, 0);
    due(5, "of(0, 7), a dark face", x.of(0, 7), 0);
    due(5, "of(1, 7), a dark steeple", x.of(1, 7), 15);
    x.set(0, 3, 1);
    due(5, "of(0, 7), a face of light 1", x.of(0, 7), 2 + 18);
    due(3, "cell(40, 0), a face of light 1", x.cell(40, 0), 3);
  }

  private static void taxed() {
    GlintNets x = new GlintNets();
    int[] want = {4, 4, 6, 0, 4, 12};
    for (int kind = 0; kind < 6; kind++) {
      x.thing(kind, 0, 6);
      x.set(kind, 4, 4);
      due(5, "of(" + kind + ", 6)", x.of(kind, 6), want[kind]);
    }
    due(3, "cell(0, 3) by night", x.cell(0, 3), 12);
    pass(x, 8);
    due(3, "cell(0, 3) by day", x.cell(0, 3), 30);
  }

  private static void set() {
    GlintNets x = new GlintNets();
    due(6, "set(0, 1, 0)", x.set(0, 1, 0), BEYOND);
    x.thing(1, 3, 5);
    due(6, "set(0, 1, 7)", x.set(0, 1, 7), 3);
    due(6, "set(0, 1, 0)", x.set(0, 1, 0), 7);
    due(6, "set(0, 2, 6)", x.set(0, 2, 6), 5);
    due(6, "set(0, 2, 1)", x.set(0, 2, 1), 6);
    due(6, "set(0, 3, 99)", x.set(0, 3, 99), 40);
    due(6, "set(0, 3, 0)", x.set(0, 3, 0), 99);
    due(6, "set(0, 4, 9)", x.set(0, 4, 9), 1);
    due(6, "set(0, 4, 0)", x.set(0, 4, 0), 9);
    int[][] bad = {
      {0, 0, 0}, {0, 5, 0}, {0, -1, 0}, {0, 1, -1}, {0, 1, 8}, {0, 2, 0}, {0, 2, 7},
      {0, 3, -1}, {0, 3, 100}, {0, 4, -1}, {0, 4, 10}, {1, 1, 1}, {-1, 1, 1}
    };
    for (int[] b : bad) {
      due(6, "set(" + b[0] + ", " + b[1] + ", " + b[2] + ")", x.set(b[0], b[1], b[2]), BEYOND);
    }
    due(6, "of(0, 0)", x.of(0, 0), 1);
    due(6, "of(0, 1)", x.of(0, 1), 0);
    due(6, "of(0, 2)", x.of(0, 2), 1);
    due(6, "of(0, 3)", x.of(0, 3), 0);
    due(6, "of(0, 4)", x.of(0, 4), 0);
  }

  private static void turn() {
    GlintNets x = new GlintNets();
    due(7, "turn(0, 0)", x.turn(0, 0), BEYOND);
    x.thing(1, 3, 5);
    due(7, "turn(0, 5)", x.turn(0, 5), 1);
    due(7, "turn(0, 5)", x.turn(0, 5), 5);
    due(7, "turn(0, 0)", x.turn(0, 0), 5);
    due(7, "turn(0, 6)", x.turn(0, 6), BEYOND);
    due(7, "turn(0, -1)", x.turn(0, -1), BEYOND);
    due(7, "turn(1, 0)", x.turn(1, 0), BEYOND);
    due(7, "turn(-1, 0)", x.turn(-1, 0), BEYOND);
    due(7, "of(0, 0)", x.of(0, 0), 0);
    due(7, "of(0, 2)", x.of(0, 2), 5);
  }

  private static void as() {
    GlintNets x = new GlintNets();
    due(8, "as(0, 0)", x.as(0, 0), BEYOND);
    String[] kindsOf = {"0", "01", "02", "03", "014", "025"};
    for (int kind = 0; kind < 6; kind++) {
      x.thing(kind, 0, 1);
      x.set(kind, 3, 50 + kind);
      for (int k = 0; k < 6; k++) {
        long want = kindsOf[kind].contains("" + k) ? 50 + kind : KIND;
        due(8, "as(" + kind + ", " + k + ")", x.as(kind, k), want);
      }
    }
    due(8, "as(0, 6)", x.as(0, 6), BEYOND);
    due(8, "as(0, -1)", x.as(0, -1), BEYOND);
    due(8, "as(6, 1)", x.as(6, 1), BEYOND);
    due(8, "as(-1, 1)", x.as(-1, 1), BEYOND);
  }

  private static void boat() {
    GlintNets x = new GlintNets();
    due(9, "boat(-1)", x.boat(-1), BEYOND);
    due(9, "boat(48)", x.boat(48), BEYOND);
    for (int i = 0; i < 5; i++) {
      due(9, "boat(" + (43 + i) + ")", x.boat(43 + i), i);
    }
    due(9, "boat(0), the sixth", x.boat(0), FULL);
    due(9, "boat(48), the sixth", x.boat(48), BEYOND);
    due(9, "count(2)", x.count(2), 5);
    due(9, "told(4, 0)", x.told(4, 0), 47);
    due(9, "told(4, 1)", x.told(4, 1), 10);
    due(9, "told(4, 2)", x.told(4, 2), 0);
    due(9, "told(4, 3)", x.told(4, 3), 0);
  }

  private static void told() {
    GlintNets x = new GlintNets();
    due(10, "told(0, 0)", x.told(0, 0), BEYOND);
    x.thing(0, 1, 2);
    x.boat(9);
    x.boat(9);
    due(10, "told(0, 4), the net", x.told(0, 4), 10);
    x.fit(0, 1, 99);
    x.fit(1, 1, 99);
    due(10, "told(0, 4), the glint", x.told(0, 4), 20);
    due(10, "told(1, 4), as the first", x.told(1, 4), 20);
    x.hours(1);
    due(10, "told(0, 0)", x.told(0, 0), 9);
    due(10, "told(0, 1)", x.told(0, 1), 99);
    due(10, "told(0, 2)", x.told(0, 2), 20);
    due(10, "told(1, 2), after the first", x.told(1, 2), 19);
    due(10, "told(0, 3)", x.told(0, 3), -1);
    due(10, "told(0, -1)", x.told(0, -1), BEYOND);
    due(10, "told(0, 5)", x.told(0, 5), BEYOND);
    due(10, "told(2, 0)", x.told(2, 0), BEYOND);
    due(10, "told(-1, 0)", x.told(-1, 0), BEYOND);
  }

  private static void fit() {
    GlintNets x = new GlintNets();
    due(11, "fit(0, 0, 0)", x.fit(0, 0, 0), BEYOND);
    x.boat(9);
    due(11, "fit(0, 0, 47)", x.fit(0, 0, 47), 9);
    due(11, "fit(0, 0, 0)", x.fit(0, 0, 0), 47);
    due(11, "fit(0, 1, 99)", x.fit(0, 1, 99), 10);
    due(11, "fit(0, 1, 0)", x.fit(0, 1, 0), 99);
    int[][] bad = {{0, 0, 48}, {0, 0, -1}, {0, 1, 100}, {0, 1, -1}, {0, 2, 0}, {0, -1, 0}, {1, 0, 0}, {-1, 0, 0}};
    for (int[] b : bad) {
      due(11, "fit(" + b[0] + ", " + b[1] + ", " + b[2] + ")", x.fit(b[0], b[1], b[2]), BEYOND);
    }
    due(11, "told(0, 0)", x.told(0, 0), 0);
    due(11, "told(0, 1)", x.told(0, 1), 0);
  }

  private static void hours() {
    GlintNets x = new GlintNets();
    due(12, "hours(0)", x.hours(0), BEYOND);
    due(12, "hours(61)", x.hours(61), BEYOND);
    due(12, "hours(-1)", x.hours(-1), BEYOND);
    due(12, "hours(3) of an empty lake", x.hours(3), 0);
    due(12, "now(0)", x.now(0), 3);
    x.thing(0, 0, 6);
    x.thing(1, 0, 6);
    x.set(1, 3, 0);
    x.set(1, 4, 5);
    x.boat(0);
    x.boat(8);
    // Hour 3: both take 10 (the second of 39 by 2), both pay 6; lights fall to 38, 0, then rise.
    due(12, "hours(1)", x.hours(1), -12);
    due(12, "told(0, 2)", x.told(0, 2), 10);
    due(12, "told(1, 2)", x.told(1, 2), 10);
    due(12, "of(0, 3)", x.of(0, 3), 39);
    due(12, "of(1, 3)", x.of(1, 3), 1);
    due(12, "hours(16)", x.hours(16), -12 - 16 * 12);
    due(12, "now(0)", x.now(0), 20);
    due(12, "told(0, 2) before the sale", x.told(0, 2), 170);
    x.wind(1, 1);
    int unsold = x.count(4);
    int unpaid = x.count(3);
    due(12, "hours(1) with the sale in fog", x.hours(1), unpaid + unsold);
    due(12, "count(4)", x.count(4), 0);
    x = new GlintNets();
    x.thing(0, 0, 1);
    x.set(0, 3, 98);
    due(12, "hours(60) of one thing", x.hours(60), 0);
    due(12, "of(0, 3)", x.of(0, 3), 99);
  }

  private static void holdAndCoinsAreHeld() {
    // A bank of faces at its dearest: 8 times 22 for each hour that something is taken.
    GlintNets x = new GlintNets();
    for (int i = 0; i < 8; i++) {
      x.thing(5, 0, 6);
      x.set(i, 3, 99);
      x.set(i, 4, 9);
    }
    x.boat(0);
    x.fit(0, 1, 1);
    // Looked at behind the day and before the sale.
    pass(x, 9594);
    due(12, "told(0, 3), the least coins", x.told(0, 3), -99999);
    x = new GlintNets();
    for (int i = 0; i < 8; i++) {
      x.thing(0, 0, 6);
      x.set(i, 4, 0);
    }
    x.boat(0);
    x.fit(0, 1, 99);
    for (int i = 0; i < 120; i++) {
      x.hours(24);
      for (int k = 0; k < 2; k++) {
        x.set(k, 3, 99);
      }
    }
    due(12, "told(0, 3), the most coins", x.told(0, 3), 99999);
    GlintNets y = new GlintNets();
    y.thing(0, 0, 1);
    y.set(0, 3, 99);
    y.boat(0);
    y.fit(0, 1, 99);
    y.hours(11);
    due(12, "told(0, 2), a full hold", y.told(0, 2), 999);
    due(12, "told(0, 3)", y.told(0, 3), -11);
    due(12, "told(0, 4), a full hold", y.told(0, 4), 0);
    int before = y.of(0, 3);
    y.hours(2);
    due(12, "told(0, 3), nothing taken, nothing paid", y.told(0, 3), -11);
    due(12, "of(0, 3), nothing taken, but hour 11", y.of(0, 3), before + 1);
  }

  private static void lastHour() {
    GlintNets x = new GlintNets();
    x.thing(0, 0, 1);
    x.boat(0);
    for (int i = 0; i < 166; i++) {
      x.hours(60);
    }
    due(12, "now(0)", x.now(0), 9960);
    due(12, "hours(40)", x.hours(40), STATE);
    due(12, "hours(61)", x.hours(61), BEYOND);
    due(12, "now(0)", x.now(0), 9960);
    x.hours(39);
    due(12, "now(0)", x.now(0), 9999);
    due(12, "hours(1)", x.hours(1), STATE);
    due(12, "status(4)", x.status(4), 2);
    x.set(0, 3, 40);
    int hold = x.told(0, 2);
    due(14, "on(0, 4, 0) at the last hour", x.on(0, 4, 0), hold + 40);
    due(14, "now(0)", x.now(0), 9999);
  }

  private static void now() {
    GlintNets x = at(50);
    due(13, "now(0)", x.now(0), 50);
    due(13, "now(1)", x.now(1), 2);
    x.thing(0, 0, 2);
    x.thing(3, 1, 1);
    x.thing(1, 7, 6);
    x.set(1, 3, 0);
    x.set(2, 3, 0);
    x.wind(0, 129);
    due(13, "now(2)", x.now(2), 129);
    due(13, "now(3)", x.now(3), 0);
    due(13, "now(4)", x.now(4), 40);
    due(13, "now(5)", x.now(5), 13 + 6);
    due(13, "now(6)", x.now(6), 6);
    x.set(0, 3, 0);
    due(13, "now(6)", x.now(6), 7);
    x.set(0, 3, 40);
    x.wind(1, 1);
    due(13, "now(3)", x.now(3), 1);
    due(13, "now(5)", x.now(5), 0);
    due(13, "now(-1)", x.now(-1), BEYOND);
    due(13, "now(7)", x.now(7), BEYOND);
  }

  private static void on() {
    GlintNets x = new GlintNets();
    due(14, "on(0, 0, 0)", x.on(0, 0, 0), BEYOND);
    x.thing(0, 0, 1);
    x.set(0, 4, 3);
    x.boat(0);
    due(14, "on(0, 0, 0)", x.on(0, 0, 0), 0);
    due(14, "on(0, 2, 0)", x.on(0, 2, 0), 20);
    due(14, "on(0, 2, 1)", x.on(0, 2, 1), -6);
    due(14, "on(0, 20, 0)", x.on(0, 20, 0), 200);
    due(14, "on(0, 21, 0)", x.on(0, 21, 0), 0);
    due(14, "on(0, 21, 1)", x.on(0, 21, 1), 210 - 63);
    due(14, "now(0), nothing changed", x.now(0), 0);
    due(14, "of(0, 3), nothing changed", x.of(0, 3), 40);
    due(14, "told(0, 2), nothing changed", x.told(0, 2), 0);
    int hold = x.on(0, 72, 0);
    int coins = x.on(0, 72, 1);
    due(14, "on(0, 73, 0)", x.on(0, 73, 0), BEYOND);
    due(14, "on(0, -1, 0)", x.on(0, -1, 0), BEYOND);
    due(14, "on(0, 1, 2)", x.on(0, 1, 2), BEYOND);
    due(14, "on(0, 1, -1)", x.on(0, 1, -1), BEYOND);
    due(14, "on(1, 1, 0)", x.on(1, 1, 0), BEYOND);
    due(14, "on(-1, 1, 0)", x.on(-1, 1, 0), BEYOND);
    pass(x, 72);
    due(14, "told(0, 2) as foretold", x.told(0, 2), hold);
    due(14, "told(0, 3) as foretold", x.told(0, 3), coins);
  }

  private static void light() {
    GlintNets x = new GlintNets();
    due(15, "light(0, 0)", x.light(0, 0), BEYOND);
    x.thing(0, 0, 1);
    x.boat(0);
    due(15, "light(0, 0)", x.light(0, 0), 40);
    due(15, "light(0, 3)", x.light(0, 3), 37);
    due(15, "light(0, 4)", x.light(0, 4), 37);
    due(15, "light(0, 72)", x.light(0, 72), 1);
    due(15, "of(0, 3), nothing changed", x.of(0, 3), 40);
    x.fit(0, 1, 0);
    due(15, "light(0, 72) without a net", x.light(0, 72), 58);
    due(15, "light(0, 73)", x.light(0, 73), BEYOND);
    due(15, "light(0, -1)", x.light(0, -1), BEYOND);
    due(15, "light(1, 0)", x.light(1, 0), BEYOND);
    due(15, "light(-1, 0)", x.light(-1, 0), BEYOND);
  }

  private static void full() {
    GlintNets x = new GlintNets();
    due(16, "full(0, 1)", x.full(0, 1), BEYOND);
    x.thing(0, 0, 1);
    x.boat(0);
    due(16, "full(0, 1)", x.full(0, 1), 1);
    due(16, "full(0, 10)", x.full(0, 10), 1);
    due(16, "full(0, 11)", x.full(0, 11), 2);
    due(16, "full(0, 200)", x.full(0, 200), 20);
    due(16, "full(0, 201), the day behind the sale", x.full(0, 201), 42);
    due(16, "full(0, 224)", x.full(0, 224), 44);
    due(16, "full(0, 225), sold before", x.full(0, 225), NONE);
    x.hours(2);
    due(16, "full(0, 20)", x.full(0, 20), 0);
    due(16, "now(0), nothing changed", x.now(0), 2);
    due(16, "full(0, 0)", x.full(0, 0), BEYOND);
    due(16, "full(0, 1000)", x.full(0, 1000), BEYOND);
    due(16, "full(1, 1)", x.full(1, 1), BEYOND);
    due(16, "full(-1, 1)", x.full(-1, 1), BEYOND);
    x = at(21);
    x.thing(3, 0, 1);
    x.boat(0);
    x.fit(0, 1, 0);
    due(16, "full(0, 1) with net 0", x.full(0, 1), NONE);
    // Light 1 comes with hours 23, 27, ..; each is taken in the hour behind it, and hour 44 sells.
    x = at(21);
    x.thing(0, 0, 1);
    x.set(0, 3, 0);
    x.boat(0);
    due(16, "full(0, 5)", x.full(0, 5), 20);
    due(16, "full(0, 6)", x.full(0, 6), NONE);
    due(16, "full(0, 1) in the 72nd hour", rippledFull(1), 72);
    due(16, "full(0, 1) in the 73rd hour", rippledFull(0), NONE);
  }

  /** Under ripples a thing glints in the last row once its light is 18, which comes at hour 72. */
  private static int rippledFull(int hour) {
    GlintNets x = at(hour);
    x.thing(0, 0, 6);
    x.set(0, 3, 0);
    x.wind(0, 1);
    x.boat(40);
    return x.full(0, 1);
  }

  private static void dark() {
    GlintNets x = new GlintNets();
    due(17, "dark(0)", x.dark(0), BEYOND);
    x.thing(0, 0, 1);
    x.boat(0);
    x.set(0, 3, 3);
    due(17, "dark(0)", x.dark(0), 3);
    x.set(0, 3, 4);
    due(17, "dark(0), by hour 3 once brighter", x.dark(0), 5);
    x.set(0, 3, 0);
    due(17, "dark(0), at once", x.dark(0), 0);
    x.set(0, 3, 54);
    due(17, "dark(0), the latest", x.dark(0), 71);
    x.set(0, 3, 55);
    due(17, "dark(0), in the 73rd", x.dark(0), NONE);
    due(17, "now(0), nothing changed", x.now(0), 0);
    due(17, "of(0, 3), nothing changed", x.of(0, 3), 55);
    due(17, "dark(1)", x.dark(1), BEYOND);
    due(17, "dark(-1)", x.dark(-1), BEYOND);
    // An hour on, the last dimming falls into the 72nd hour.
    x.hours(1);
    x.set(0, 3, 54);
    due(17, "dark(0), the 72nd", x.dark(0), 72);
  }

  private static void brightest() {
    GlintNets x = new GlintNets();
    due(18, "brightest()", x.brightest(), NONE);
    x.thing(0, 5, 1);
    x.thing(0, 3, 1);
    due(18, "brightest(), the least of two", x.brightest(), 3);
    x.set(0, 3, 41);
    due(18, "brightest()", x.brightest(), 5);
    x.wind(0, 32);
    due(18, "brightest() with ripples", x.brightest(), 3);
    x.wind(1, 1);
    due(18, "brightest() in fog", x.brightest(), NONE);
    x.wind(1, 0);
    x.set(0, 3, 0);
    x.set(1, 3, 0);
    x.turn(0, 4);
    x.set(0, 2, 6);
    x.wind(0, 0);
    due(18, "brightest() by a dark steeple", x.brightest(), 45);
    x = new GlintNets();
    x.thing(0, 0, 1);
    x.set(0, 3, 1);
    due(18, "brightest(), a light of 1 at the first cell", x.brightest(), 0);
  }

  private static void spot() {
    GlintNets x = new GlintNets();
    due(19, "spot(0, 1)", x.spot(0, 1), BEYOND);
    x.boat(30);
    due(19, "spot(0, 1), all the same", x.spot(0, 1), 0);
    x.thing(0, 4, 2);
    x.set(0, 3, 15);
    x.thing(0, 6, 2);
    due(19, "spot(0, 1), the least of two", x.spot(0, 1), 4);
    due(19, "spot(0, 24)", x.spot(0, 24), 6);
    x.set(0, 4, 9);
    x.set(1, 4, 9);
    x.fit(0, 1, 8);
    due(19, "spot(0, 3), where nothing is taken", x.spot(0, 3), 0);
    due(19, "told(0, 0), nothing changed", x.told(0, 0), 30);
    due(19, "now(0), nothing changed", x.now(0), 0);
    due(19, "spot(0, 0)", x.spot(0, 0), BEYOND);
    due(19, "spot(0, 25)", x.spot(0, 25), BEYOND);
    due(19, "spot(1, 1)", x.spot(1, 1), BEYOND);
    due(19, "spot(-1, 1)", x.spot(-1, 1), BEYOND);
    // A bride by day is worth waiting for.
    x = new GlintNets();
    x.boat(0);
    x.fit(0, 1, 99);
    x.thing(2, 7, 1);
    x.thing(0, 1, 1);
    x.set(1, 3, 2);
    due(19, "spot(0, 8)", x.spot(0, 8), 1);
    due(19, "spot(0, 9)", x.spot(0, 9), 7);
  }

  private static void time() {
    GlintNets x = at(30);
    due(20, "time(0), nothing there", x.time(0), 0);
    x.thing(2, 0, 1);
    x.thing(3, 1, 1);
    x.thing(4, 2, 1);
    x.thing(3, 3, 1);
    x.thing(4, 3, 1);
    due(20, "time(0), a bride", x.time(0), 8);
    due(20, "time(8), above a bride", x.time(8), 0);
    due(20, "time(1), a moon", x.time(1), 0);
    x.thing(0, 4, 1);
    x.thing(2, 5, 1);
    x.thing(3, 5, 1);
    x.set(7, 3, 99);
    due(20, "time(5), a bride and a moon", x.time(5), 8);
    x.set(6, 3, 1);
    due(20, "time(5), a weak bride and a moon", x.time(5), 0);
    due(20, "time(10), a steeple in its second row", x.time(10), 0);
    x.hours(1);
    due(20, "time(10), a steeple in its second row", x.time(10), 0);
    due(20, "now(0), nothing changed", x.now(0), 31);
    x.wind(1, 1);
    due(20, "time(0) in fog", x.time(0), 0);
    due(20, "time(48)", x.time(48), BEYOND);
    due(20, "time(-1)", x.time(-1), BEYOND);
    // A steeple with a bride: even hours of the day alone have both in the second row.
    x = new GlintNets();
    x.thing(2, 0, 2);
    x.thing(4, 0, 1);
    x.turn(0, 2);
    due(20, "time(8), a bride and a steeple", x.time(8), 8);
    x.set(1, 2, 6);
    due(20, "time(40), a steeple's last row", x.time(40), 0);
  }

  private static void net() {
    GlintNets x = new GlintNets();
    due(21, "net(0, 1)", x.net(0, 1), BEYOND);
    x.boat(0);
    due(21, "net(0, 1), nothing there", x.net(0, 1), 0);
    x.thing(0, 0, 1);
    due(21, "net(0, 1)", x.net(0, 1), 40);
    due(21, "net(0, 2)", x.net(0, 2), 40);
    x.set(0, 4, 9);
    x.set(0, 3, 9);
    due(21, "net(0, 1), no gain", x.net(0, 1), 0);
    x.set(0, 3, 10);
    due(21, "net(0, 1), a gain of one", x.net(0, 1), 10);
    x.set(0, 3, 99);
    due(21, "net(0, 1), the largest", x.net(0, 1), 99);
    due(21, "told(0, 1), nothing changed", x.told(0, 1), 10);
    due(21, "net(0, 0)", x.net(0, 0), BEYOND);
    due(21, "net(0, 25)", x.net(0, 25), BEYOND);
    due(21, "net(1, 1)", x.net(1, 1), BEYOND);
    due(21, "net(-1, 1)", x.net(-1, 1), BEYOND);
    due(21, "net(0, 24) is found", x.net(0, 24) >= 0 ? 1 : 0, 1);
  }

  private static void gives() {
    GlintNets x = new GlintNets();
    due(22, "gives(0, 1)", x.gives(0, 1), BEYOND);
    x.boat(0);
    due(22, "gives(0, 1), no things", x.gives(0, 1), NONE);
    x.thing(0, 0, 1);
    x.thing(0, 0, 1);
    x.thing(0, 1, 1);
    due(22, "gives(0, 1), enough without", x.gives(0, 1), NONE);
    x.fit(0, 1, 99);
    due(22, "gives(0, 1), the least of two", x.gives(0, 1), 0);
    x.set(1, 3, 41);
    due(22, "gives(0, 1)", x.gives(0, 1), 1);
    x.set(0, 3, 0);
    x.set(0, 4, 9);
    x.set(1, 3, 5);
    due(22, "gives(0, 1), a loss", x.gives(0, 1), NONE);
    due(22, "of(1, 3), nothing changed", x.of(1, 3), 5);
    due(22, "gives(0, 0)", x.gives(0, 0), BEYOND);
    due(22, "gives(0, 25)", x.gives(0, 25), BEYOND);
    due(22, "gives(1, 1)", x.gives(1, 1), BEYOND);
    due(22, "gives(-1, 1)", x.gives(-1, 1), BEYOND);
  }

  private static void kind() {
    GlintNets x = new GlintNets();
    due(23, "kind(0, 1)", x.kind(0, 1), BEYOND);
    x.thing(5, 0, 1);
    due(23, "kind(0, 1), no boats", x.kind(0, 1), 0);
    x.boat(8);
    x.fit(0, 1, 99);
    // In the second row at hour 0: a thing and a bride none, a tower 20, a moon 10 untaxed, a steeple 21.
    due(23, "kind(0, 1)", x.kind(0, 1), 4);
    x.set(0, 4, 9);
    due(23, "kind(0, 1), a fee of 9", x.kind(0, 1), 4);
    x.set(0, 3, 20);
    due(23, "kind(0, 1), a fee too high", x.kind(0, 1), 3);
    x.boat(0);
    x.fit(1, 1, 99);
    x.set(0, 3, 40);
    x.set(0, 4, 0);
    due(23, "kind(0, 1), for two boats", x.kind(0, 1), 4);
    due(23, "of(0, 0), nothing changed", x.of(0, 0), 5);
    x.wind(1, 1);
    due(23, "kind(0, 1) in fog", x.kind(0, 1), 0);
    x.wind(1, 0);
    pass(x, 8);
    x.set(0, 3, 40);
    x.set(0, 2, 6);
    due(23, "kind(0, 1) by day", x.kind(0, 1), 5);
    x.set(0, 4, 1);
    due(23, "kind(0, 1) by day, two fees", x.kind(0, 1), 2);
    due(23, "kind(0, 0)", x.kind(0, 0), BEYOND);
    due(23, "kind(0, 25)", x.kind(0, 25), BEYOND);
    due(23, "kind(1, 1)", x.kind(1, 1), BEYOND);
    due(23, "kind(-1, 1)", x.kind(-1, 1), BEYOND);
  }

  private static void rival() {
    GlintNets x = new GlintNets();
    x.boat(0);
    due(24, "rival(0, 0, 1)", x.rival(0, 0, 1), BEYOND);
    due(24, "rival(0, 1, 1)", x.rival(0, 1, 1), BEYOND);
    x.boat(8);
    x.boat(5);
    due(24, "rival(0, 1, 1), nothing there", x.rival(0, 1, 1), 0);
    x.thing(0, 0, 6);
    x.fit(0, 1, 99);
    x.fit(1, 1, 99);
    due(24, "rival(1, 0, 1)", x.rival(1, 0, 1), 1);
    due(24, "rival(0, 1, 1), the first", x.rival(0, 1, 1), 0);
    due(24, "rival(0, 1, 2)", x.rival(0, 1, 2), 1);
    due(24, "rival(0, 2, 9), elsewhere", x.rival(0, 2, 9), 0);
    due(24, "told(1, 1), nothing changed", x.told(1, 1), 99);
    due(24, "rival(0, 1, 0)", x.rival(0, 1, 0), BEYOND);
    due(24, "rival(0, 1, 25)", x.rival(0, 1, 25), BEYOND);
    due(24, "rival(3, 1, 1)", x.rival(3, 1, 1), BEYOND);
    due(24, "rival(1, -1, 1)", x.rival(1, -1, 1), BEYOND);
    due(24, "rival(-1, 1, 1)", x.rival(-1, 1, 1), BEYOND);
    // The other dims a thing to where the boat takes nothing and pays nothing.
    x.set(0, 3, 2);
    x.set(0, 4, 9);
    due(24, "rival(1, 0, 1), worse off alone", x.rival(1, 0, 1), -8);
  }

  private static void way() {
    GlintNets x = new GlintNets();
    due(25, "way(0, 0)", x.way(0, 0), 0);
    due(25, "way(0, 47)", x.way(0, 47), 12);
    due(25, "way(47, 0)", x.way(47, 0), 12);
    due(25, "way(7, 8), not around the rim", x.way(7, 8), 8);
    due(25, "way(5, 45)", x.way(5, 45), 5);
    x.wind(0, 8 + 64);
    due(25, "way(0, 2)", x.way(0, 2), 2);
    due(25, "way(12, 45)", x.way(12, 45), 5);
    due(25, "way(0, 4)", x.way(0, 4), NONE);
    due(25, "way(4, 0)", x.way(4, 0), NONE);
    due(25, "way(0, 3)", x.way(0, 3), NONE);
    due(25, "way(3, 0)", x.way(3, 0), NONE);
    due(25, "way(3, 3)", x.way(3, 3), NONE);
    due(25, "way(3, 11)", x.way(3, 11), NONE);
    due(25, "way(7, 47)", x.way(7, 47), 5);
    x.wind(1, 1);
    due(25, "way(7, 47) in fog", x.way(7, 47), 5);
    due(25, "way(48, 0)", x.way(48, 0), BEYOND);
    due(25, "way(0, 48)", x.way(0, 48), BEYOND);
    due(25, "way(-1, 0)", x.way(-1, 0), BEYOND);
    due(25, "way(0, -1)", x.way(0, -1), BEYOND);
  }

  private static void feed() {
    GlintNets x = new GlintNets();
    due(26, "feed(0, 0)", x.feed(0, 0), BEYOND);
    due(26, "feed(0, 5)", x.feed(0, 5), BEYOND);
    due(26, "feed(0, -1)", x.feed(0, -1), BEYOND);
    due(26, "count(1)", x.count(1), 0);
    // "fog" with the lowest three of four bytes, the highest of them first.
    due(26, "feed(-1kfog, 3)", x.feed(0xff666f67, 3), 3);
    due(26, "lake()", x.lake(), 1);
    due(26, "now(3)", x.now(3), 1);
    due(26, "feed(c, 1)", x.feed(0x7a7a7a63, 1), 1);
    due(26, "feed(le, 2)", x.feed(0x7a7a6c65, 2), 3);
    due(26, "feed(ar, 2)", x.feed(0x6172, 2), 5);
    due(26, "lake()", x.lake(), 1);
    due(26, "now(3)", x.now(3), 0);
    for (int i = 0; i < 29; i++) {
      due(26, "feed(0, 4)", x.feed(0, 4), 4 * i + 4);
    }
    due(26, "feed(0, 2)", x.feed(0, 2), 118);
    due(26, "feed(0, 3)", x.feed(0, 3), FULL);
    due(26, "feed(0, 5)", x.feed(0, 5), BEYOND);
    due(26, "count(1)", x.count(1), 118);
    due(26, "feed(0, 2)", x.feed(0, 2), 120);
    due(26, "feed(0, 1)", x.feed(0, 1), FULL);
    due(26, "count(1)", x.count(1), 120);
  }

  private static void wipe() {
    GlintNets x = new GlintNets();
    due(27, "wipe()", x.wipe(), 0);
    tell(x, "fog; clear");
    due(27, "wipe()", x.wipe(), 10);
    due(27, "wipe()", x.wipe(), 0);
    due(27, "count(1)", x.count(1), 0);
    due(27, "lake()", x.lake(), -1);
  }

  private static void lake() {
    GlintNets x = new GlintNets();
    due(28, "things", lakeOf(x, "tower at 3 high 6 light 99 fee 9;thing at 0;face at 7 fee 0"), 3);
    due(28, "count(1)", x.count(1), 0);
    due(28, "count(0)", x.count(0), 3);
    int[][] want = {{1, 3, 6, 99, 9}, {0, 0, 3, 40, 1}, {5, 7, 3, 40, 0}};
    for (int i = 0; i < 3; i++) {
      for (int what = 0; what < 5; what++) {
        due(28, "of(" + i + ", " + what + ")", x.of(i, what), want[i][what]);
      }
    }
    due(28, "more things", lakeOf(x, "bride at 1 light 0; moon at 2 high 1; steeple at 4 high 2 fee 3"), 3);
    int[][] more = {{2, 1, 3, 0, 1}, {3, 2, 1, 40, 1}, {4, 4, 2, 40, 3}};
    for (int i = 0; i < 3; i++) {
      for (int what = 0; what < 5; what++) {
        due(28, "of(" + (3 + i) + ", " + what + ")", x.of(3 + i, what), more[i][what]);
      }
    }
    due(28, "boats", lakeOf(x, " boat 47net0 ;boat0;  boat 007 net 99  "), 3);
    due(28, "told(0, 0)", x.told(0, 0), 47);
    due(28, "told(0, 1)", x.told(0, 1), 0);
    due(28, "told(1, 0)", x.told(1, 0), 0);
    due(28, "told(1, 1)", x.told(1, 1), 10);
    due(28, "told(2, 0)", x.told(2, 0), 7);
    due(28, "told(2, 1)", x.told(2, 1), 99);
    x.wind(0, 16);
    due(28, "ripples", lakeOf(x, "wind 0;wind 7;calm 4;calm 5;wind 3;calm 3;wind 7"), 7);
    due(28, "now(2)", x.now(2), 129);
    due(28, "fog", lakeOf(x, "clear;fog"), 2);
    due(28, "now(3)", x.now(3), 1);
    due(28, "clear", lakeOf(x, "fog;clear"), 2);
    due(28, "now(3)", x.now(3), 0);
    due(28, "status(-1)", x.status(-1), 0);
  }

  private static void lakeFault(String text, int place) {
    GlintNets x = new GlintNets();
    x.wind(0, 2);
    due(28, "lake() of '" + text + "'", lakeOf(x, text), -1 - place);
    due(28, "count(1) behind '" + text + "'", x.count(1), 0);
    due(28, "count(0) behind '" + text + "'", x.count(0), 0);
    due(28, "count(2) behind '" + text + "'", x.count(2), 0);
    due(28, "now(2) behind '" + text + "'", x.now(2), 2);
    due(28, "now(3) behind '" + text + "'", x.now(3), 0);
    due(28, "status(-1) behind '" + text + "'", x.status(-1), 0);
  }

  private static void lakeFaults() {
    lakeFault("", 0);
    lakeFault("   ", 3);
    lakeFault(";", 0);
    lakeFault("fog;", 4);
    lakeFault("fog; ", 5);
    lakeFault("fog;;clear", 4);
    lakeFault("fog clear", 4);
    lakeFault("fog 1", 4);
    lakeFault("7", 0);
    lakeFault("Fog", 0);
    lakeFault("foG", 0);
    lakeFault("fog\tclear", 3);
    lakeFault("fog\n", 3);
    lakeFault("fog;rain", 4);
    lakeFault("fogs", 0);
    lakeFault("fogz", 0);
    lakeFault("foga", 0);
    lakeFault("xog", 0);
    lakeFault("fog`", 3);
    lakeFault("fog{", 3);
    lakeFault("fog/", 3);
    lakeFault("fog:", 3);
    lakeFault("fo g", 0);
    lakeFault("fog;tower", 9);
    lakeFault("fog;tower ", 10);
    lakeFault("fog;tower 3", 10);
    lakeFault("fog;tower at", 12);
    lakeFault("fog;tower at 8", 13);
    lakeFault("fog;tower at high", 13);
    lakeFault("fog;tower at 3 4", 15);
    lakeFault("fog;tower at 3 high", 19);
    lakeFault("fog;tower at 3 high 0", 20);
    lakeFault("fog;tower at 3 high 7", 20);
    lakeFault("fog;tower at 3 light 100", 21);
    lakeFault("fog;tower at 3 fee 10", 19);
    lakeFault("fog;tower at 3 light 5 high 2", 23);
    lakeFault("fog;tower at 3 fee 5 light 2", 21);
    lakeFault("fog;tower at 3 high 5 high 2", 22);
    lakeFault("fog;tower at 3 net 2", 15);
    lakeFault("fog;towerat 3", 4);
    lakeFault("fog;tower at 1000", 13);
    lakeFault("fog;tower at 4294967296", 13);
    lakeFault("fog;tower at -1", 13);
    lakeFault("fog;at 3", 4);
    lakeFault("fog;boat", 8);
    lakeFault("fog;boat 48", 9);
    lakeFault("fog;boat at 3", 9);
    lakeFault("fog;boat 3 net", 14);
    lakeFault("fog;boat 3 net 100", 15);
    lakeFault("fog;boat 3 net ;", 15);
    lakeFault("fog;boat 3 light 1", 11);
    lakeFault("fog;boat 3 net 5 net 6", 17);
    lakeFault("fog;wind", 8);
    lakeFault("fog;wind 8", 9);
    lakeFault("fog;calm 8", 9);
    lakeFault("wind 0;calm 1;calm;", 18);
    lakeFault("fog;calm 1 2", 11);
    lakeFault("fog;boat 3;thing at 1;wind 5;clear;\u00e9", 35);
  }

  private static void lakeLimits() {
    GlintNets x = new GlintNets();
    due(28, "six moons", lakeOf(x, "moon at 0;moon at 0;moon at 0;moon at 0;moon at 0;moon at 0"), 6);
    due(28, "a ninth thing", lakeOf(x, "moon at 1;moon at 1;fog;moon 1"), -25);
    due(28, "count(0)", x.count(0), 6);
    due(28, "now(3)", x.now(3), 0);
    due(28, "eight things", lakeOf(x, "moon at 1;moon at 1"), 2);
    due(28, "count(0)", x.count(0), 8);
    due(28, "a sixth boat", lakeOf(x, "boat 0;boat 1;boat 2;boat 3;boat 4;boat 99"), -36);
    due(28, "count(2)", x.count(2), 0);
    due(28, "five boats", lakeOf(x, "boat 0;boat 1;boat 2;boat 3;boat 4"), 5);
    due(28, "another boat", lakeOf(x, "  boat"), -3);
    due(28, "status(-1)", x.status(-1), 0);
    StringBuilder most = new StringBuilder();
    for (int i = 0; i < 30; i++) {
      most.append("fog;");
    }
    due(28, "120 bytes, the last a sign", lakeOf(x, most.toString()), -121);
    due(28, "120 bytes, the last a blank", lakeOf(x, most.substring(0, 119) + " "), 30);
    due(28, "119 digits", lakeOf(x, "wind " + "9".repeat(115)), -6);
    due(28, "zeros before", lakeOf(x, "wind " + "0".repeat(114) + "6"), 1);
    due(28, "now(2)", x.now(2), 64);
  }

  private static void sheet() {
    GlintNets x = new GlintNets();
    due(29, "sheet(0, 8, 40)", x.sheet(0, 8, 40), 40);
    due(29, "sheet(3, 64, 0)", x.sheet(3, 64, 0), 0);
    due(29, "sheet(1, 16, 7)", x.sheet(1, 16, 7), 7);
    due(29, "write(0, 39, 5)", x.write(0, 39, 5), 0);
    due(29, "write(0, 3, 5)", x.write(0, 3, 5), 0);
    due(29, "write(0, 3, 5)", x.write(0, 3, 5), 5);
    due(29, "sheet(-1, 8, 1)", x.sheet(-1, 8, 1), BEYOND);
    due(29, "sheet(4, 8, 1)", x.sheet(4, 8, 1), BEYOND);
    due(29, "sheet(0, 32, 1)", x.sheet(0, 32, 1), BEYOND);
    due(29, "sheet(0, -8, -1)", x.sheet(0, -8, -1), BEYOND);
    due(29, "sheet(4, 8, -1)", x.sheet(4, 8, -1), BEYOND);
    due(29, "sheet(0, 8, -1)", x.sheet(0, 8, -1), SIZE);
    due(29, "sheet(0, 0, -1)", x.sheet(0, 0, -1), SIZE);
    due(29, "sheet(0, 8, 41)", x.sheet(0, 8, 41), BEYOND);
    due(29, "sheet(0, 0, 41)", x.sheet(0, 0, 41), BEYOND);
    due(29, "write(0, 3, 5), nothing changed", x.write(0, 3, 5), 5);
    due(29, "sheet(0, 8, 4)", x.sheet(0, 8, 4), 4);
    due(29, "write(0, 3, 5), all 0", x.write(0, 3, 5), 0);
    due(29, "sheet(0, 0, 40)", x.sheet(0, 0, 40), 0);
    due(29, "write(0, 3, 5)", x.write(0, 3, 5), MISSING);
    due(29, "sheet(0, 8, 40)", x.sheet(0, 8, 40), 40);
    for (int i = 0; i < 40; i++) {
      x.write(0, i, i + 1);
    }
    x.sheet(0, 8, 40);
    for (int i = 0; i < 40; i++) {
      due(29, "write(0, " + i + ", 5), all 0", x.write(0, i, 5), 0);
    }
    due(29, "write(3, 0, 5), no numbers", x.write(3, 0, 5), BEYOND);
  }

  private static void write() {
    GlintNets x = new GlintNets();
    due(30, "write(0, 0, 1)", x.write(0, 0, 1), MISSING);
    due(30, "write(0, -1, 1)", x.write(0, -1, 1), MISSING);
    due(30, "write(4, 0, 1)", x.write(4, 0, 1), BEYOND);
    due(30, "write(-1, 0, 1)", x.write(-1, 0, 1), BEYOND);
    x.sheet(0, 8, 2);
    x.sheet(1, 16, 2);
    x.sheet(2, 64, 2);
    due(30, "write(0, 2, 1)", x.write(0, 2, 1), BEYOND);
    due(30, "write(0, -1, 1)", x.write(0, -1, 1), BEYOND);
    long[] values = {127, 128, 255, 256, -1, 32767, 32768, 65535, 65536, Long.MAX_VALUE, Long.MIN_VALUE, BEYOND};
    for (long v : values) {
      x.write(0, 1, v);
      x.write(1, 1, v);
      x.write(2, 1, v);
      due(30, "write(0, 1, 0) behind " + v, x.write(0, 1, 0), (byte) v);
      due(30, "write(1, 1, 0) behind " + v, x.write(1, 1, 0), (short) v);
      due(30, "write(2, 1, 0) behind " + v, x.write(2, 1, 0), v);
    }
    due(30, "write(0, 0, 0), untouched", x.write(0, 0, 0), 0);
    due(30, "status(0), an old number is no finding", x.status(0), 4);
  }

  private static void copy() {
    GlintNets x = new GlintNets();
    due(31, "copy(4, 0, 0, 0, 0)", x.copy(4, 0, 0, 0, 0), BEYOND);
    due(31, "copy(0, 0, -1, 0, 0)", x.copy(0, 0, -1, 0, 0), BEYOND);
    due(31, "copy(0, 0, 1, 0, 0)", x.copy(0, 0, 1, 0, 0), MISSING);
    x.sheet(0, 16, 5);
    due(31, "copy(0, 0, 1, 0, -1)", x.copy(0, 0, 1, 0, -1), MISSING);
    due(31, "copy(1, 0, 0, 0, 0)", x.copy(1, 0, 0, 0, 0), MISSING);
    x.sheet(1, 8, 5);
    due(31, "copy(0, 9, 1, 0, 1)", x.copy(0, 9, 1, 0, 1), KIND);
    x.sheet(1, 16, 3);
    for (int i = 0; i < 5; i++) {
      x.write(0, i, i + 1);
    }
    due(31, "copy(0, 2, 1, 1, 2)", x.copy(0, 2, 1, 1, 2), 2);
    due(31, "write(1, 0, 0)", x.write(1, 0, 0), 0);
    due(31, "write(1, 1, 0)", x.write(1, 1, 0), 3);
    due(31, "write(1, 2, 0)", x.write(1, 2, 0), 4);
    due(31, "copy(0, 0, 0, 1, 4), onto itself", x.copy(0, 0, 0, 1, 4), 4);
    int[] want = {1, 1, 2, 3, 4};
    for (int i = 0; i < 5; i++) {
      due(31, "write(0, " + i + ", " + (i + 1) + ")", x.write(0, i, i + 1), want[i]);
    }
    due(31, "copy(0, 1, 0, 0, 4), onto itself", x.copy(0, 1, 0, 0, 4), 4);
    int[] back = {2, 3, 4, 5, 5};
    for (int i = 0; i < 5; i++) {
      due(31, "write(0, " + i + ", 7)", x.write(0, i, 7), back[i]);
    }
    due(31, "copy(0, 5, 1, 3, 0)", x.copy(0, 5, 1, 3, 0), 0);
    due(31, "copy(0, 0, 1, 0, 4)", x.copy(0, 0, 1, 0, 4), BEYOND);
    due(31, "copy(1, 0, 0, 0, 4)", x.copy(1, 0, 0, 0, 4), BEYOND);
    due(31, "copy(0, 4, 1, 0, 2)", x.copy(0, 4, 1, 0, 2), BEYOND);
    due(31, "copy(0, 0, 1, 2, 2)", x.copy(0, 0, 1, 2, 2), BEYOND);
    due(31, "copy(0, -1, 1, 0, 1)", x.copy(0, -1, 1, 0, 1), BEYOND);
    due(31, "copy(0, 0, 1, -1, 1)", x.copy(0, 0, 1, -1, 1), BEYOND);
    due(31, "copy(0, 0, 1, 0, -1)", x.copy(0, 0, 1, 0, -1), BEYOND);
    int most = Integer.MAX_VALUE;
    due(31, "copy(0, most, 1, 0, most)", x.copy(0, most, 1, 0, most), BEYOND);
    due(31, "copy(0, 1, 1, 0, most)", x.copy(0, 1, 1, 0, most), BEYOND);
  }

  private static void lays() {
    GlintNets x = new GlintNets();
    due(32, "lays(-1)", x.lays(-1), BEYOND);
    due(32, "lays(4)", x.lays(4), BEYOND);
    due(32, "lays(0)", x.lays(0), MISSING);
    x.sheet(0, 64, 5);
    due(32, "lays(0), no things", x.lays(0), 0);
    for (int i = 0; i < 4; i++) {
      x.thing(0, 0, 1);
    }
    long[] numbers = {99, 100, -1, 1L << 32, 7};
    for (int i = 0; i < 5; i++) {
      x.write(0, i, numbers[i]);
    }
    due(32, "lays(0)", x.lays(0), 1);
    int[] want = {99, 40, 40, 40};
    for (int i = 0; i < 4; i++) {
      due(32, "of(" + i + ", 3)", x.of(i, 3), want[i]);
    }
    x.sheet(1, 8, 2);
    due(32, "lays(1), fewer numbers than things", x.lays(1), 2);
    due(32, "of(0, 3)", x.of(0, 3), 0);
    due(32, "of(1, 3)", x.of(1, 3), 0);
    due(32, "of(2, 3)", x.of(2, 3), 40);
  }

  private static void book() {
    GlintNets x = new GlintNets();
    due(33, "book(4, 0)", x.book(4, 0), BEYOND);
    due(33, "book(0, 0)", x.book(0, 0), MISSING);
    x.sheet(0, 16, 23);
    due(33, "book(0, 0)", x.book(0, 0), BEYOND);
    x.boat(0);
    due(33, "book(0, -1)", x.book(0, -1), BEYOND);
    x.thing(0, 0, 1);
    due(33, "book(0, 0)", x.book(0, 0), 23);
    due(33, "now(0), nothing changed", x.now(0), 0);
    for (int i = 0; i < 23; i++) {
      due(33, "write(0, " + i + ", 0)", x.write(0, i, 0), i <= 20 ? 10 * i : 10 * (i - 21));
    }
    x.sheet(1, 8, 21);
    due(33, "book(1, 0)", x.book(1, 0), 21);
    due(33, "write(1, 20, 0), the lowest bits", x.write(1, 20, 0), (byte) 200);
  }

  private static void read() {
    GlintNets x = new GlintNets();
    due(34, "read(4, 0)", x.read(4, 0), BEYOND);
    due(34, "read(0, 0)", x.read(0, 0), MISSING);
    x.sheet(0, 16, 3);
    due(34, "read(0, 0)", x.read(0, 0), BEYOND);
    x.boat(0);
    due(34, "read(0, 1)", x.read(0, 1), BEYOND);
    due(34, "read(0, -1)", x.read(0, -1), BEYOND);
    due(34, "read(0, 0), nothing anywhere", x.read(0, 0), 48);
    x.thing(0, 0, 3);
    x.thing(0, 5, 2);
    due(34, "read(0, 0), nothing", x.read(0, 0), 43);
    x.book(0, 0);
    due(34, "read(0, 0), 10 and 20", x.read(0, 0), 5);
    x.fit(0, 1, 99);
    x.book(0, 0);
    due(34, "read(0, 0), 40 and 79", x.read(0, 0), 2);
    x.fit(0, 0, 16);
    x.book(0, 0);
    due(34, "read(0, 0), 13 and 26", x.read(0, 0), 1);
    x.write(0, 0, 1);
    due(34, "read(0, 0), not so", x.read(0, 0), 0);
    x.sheet(1, 8, 0);
    due(34, "read(1, 0), no numbers", x.read(1, 0), 48);
    due(34, "told(0, 0), nothing changed", x.told(0, 0), 16);
  }

  private static void image() {
    GlintNets x = new GlintNets();
    x.thing(4, 1, 2);
    x.set(0, 3, 50);
    x.set(0, 4, 5);
    x.boat(1);
    x.fit(0, 1, 30);
    x.hours(3);
    x.wind(0, 9);
    x.wind(1, 1);
    int hold = x.told(0, 2);
    int coins = x.told(0, 3);
    int light = x.of(0, 3);
    x.sheet(0, 8, 1);
    tell(x, "fog");
    due(35, "image()", x.image(), 1);
    tell(x, ";fog");
    x.write(0, 0, 9);
    x.sheet(1, 8, 1);
    x.wind(1, 0);
    x.wind(0, 0);
    x.hours(24);
    x.turn(0, 5);
    x.set(0, 1, 7);
    x.set(0, 2, 6);
    x.set(0, 4, 0);
    x.fit(0, 0, 40);
    x.fit(0, 1, 1);
    x.boat(4);
    x.thing(0, 0, 1);
    due(35, "undo()", x.undo(), 1);
    int[] wantOf = {4, 1, 2, light, 5};
    for (int what = 0; what < 5; what++) {
      due(35, "of(0, " + what + ")", x.of(0, what), wantOf[what]);
    }
    int[] wantTold = {1, 30, hold, coins};
    for (int what = 0; what < 4; what++) {
      due(35, "told(0, " + what + ")", x.told(0, what), wantTold[what]);
    }
    int[] wantNow = {3, 3, 9, 1};
    for (int what = 0; what < 4; what++) {
      due(35, "now(" + what + ")", x.now(what), wantNow[what]);
    }
    due(35, "count(0)", x.count(0), 1);
    due(35, "count(2)", x.count(2), 1);
    due(35, "count(1), the tape isn't kept", x.count(1), 7);
    due(35, "write(0, 0, 0), sheets aren't kept", x.write(0, 0, 0), 9);
    due(35, "write(1, 0, 0), sheets aren't kept", x.write(1, 0, 0), 0);
  }

  private static void undo() {
    GlintNets x = new GlintNets();
    due(36, "undo()", x.undo(), NONE);
    x.image();
    x.thing(0, 0, 1);
    x.image();
    x.thing(0, 0, 1);
    due(36, "undo(), the latest", x.undo(), 1);
    x.thing(0, 0, 1);
    x.set(0, 3, 7);
    due(36, "undo(), it stays", x.undo(), 1);
    due(36, "of(0, 3)", x.of(0, 3), 40);
    x.set(0, 3, 8);
    due(36, "undo(), what is changed later isn't kept", x.undo(), 1);
    due(36, "of(0, 3)", x.of(0, 3), 40);
    due(36, "of(1, 0)", x.of(1, 0), BEYOND);
    due(36, "thing(5, 5, 5), a new one", x.thing(5, 5, 5), 1);
    due(36, "of(1, 3)", x.of(1, 3), 40);
  }

  private static void tear() {
    GlintNets x = new GlintNets();
    due(37, "tear()", x.tear(), 0);
    x.image();
    x.image();
    due(37, "tear()", x.tear(), 1);
    due(37, "tear()", x.tear(), 0);
    due(37, "undo()", x.undo(), NONE);
    x.image();
    due(37, "undo()", x.undo(), 0);
    due(37, "tear()", x.tear(), 1);
  }

  private static void count() {
    GlintNets x = new GlintNets();
    x.thing(0, 0, 1);
    x.thing(0, 1, 1);
    x.thing(0, 2, 1);
    x.boat(0);
    x.boat(1);
    x.set(1, 4, 4);
    x.fit(1, 1, 3);
    x.hours(1);
    tell(x, "fog;fog");
    due(38, "count(0)", x.count(0), 3);
    due(38, "count(1)", x.count(1), 7);
    due(38, "count(2)", x.count(2), 2);
    due(38, "count(3)", x.count(3), -5);
    due(38, "count(4)", x.count(4), 13);
    due(38, "count(5)", x.count(5), BEYOND);
    due(38, "count(-1)", x.count(-1), BEYOND);
  }

  private static void status() {
    GlintNets x = new GlintNets();
    x.image();
    x.boat(48);
    x.boat(48);
    for (int i = 0; i < 6; i++) {
      x.boat(0);
    }
    x.thing(0, 0, 1);
    x.as(0, 1);
    x.as(0, 2);
    x.as(0, 3);
    x.sheet(0, 8, -1);
    x.write(0, 0, 0);
    x.write(9, 0, 0);
    x.wind(1, 1);
    x.brightest();
    x.undo();
    int[] want = {3, 1, 3, 1, 0, 1, 1};
    for (int which = 0; which < 7; which++) {
      due(39, "status(" + which + ")", x.status(which), want[which]);
    }
    due(39, "status(-1)", x.status(-1), 10);
    due(39, "status(7)", x.status(7), BEYOND);
    due(39, "status(0)", x.status(0), 4);
    due(39, "status(-2)", x.status(-2), BEYOND);
    due(39, "status(0)", x.status(0), 5);
    due(39, "status(-1)", x.status(-1), 12);
  }

  /** Calls with arguments that are far out: findings all, and the lake is as it was. */
  private static void findingsChangeNothing() {
    GlintNets x = new GlintNets();
    x.thing(2, 3, 4);
    x.boat(11);
    x.sheet(0, 64, 2);
    x.write(0, 0, 77);
    int[] far = EXTREMES;
    for (int f : far) {
      long[] answers = {
        x.wind(f, 0), x.wind(0, f == 100 ? 256 : f), x.cell(f, 0), x.cell(0, f), x.thing(f, 0, 1),
        x.thing(0, f, 1), x.thing(0, 0, f), x.of(f, 0), x.of(0, f), x.set(f, 1, 1), x.set(0, f, 1),
        x.set(0, 3, f), x.turn(f, 0), x.turn(0, f), x.as(f, 0), x.as(0, f), x.boat(f), x.told(f, 0),
        x.told(0, f), x.fit(f, 0, 0), x.fit(0, f, 0), x.fit(0, 0, f), x.fit(0, 1, f), x.hours(f),
        x.now(f), x.on(f, 0, 0), x.on(0, f, 0), x.on(0, 0, f), x.light(f, 0), x.light(0, f),
        x.full(f, 1), x.full(0, f == 100 ? 1000 : f), x.dark(f), x.spot(f, 1), x.spot(0, f),
        x.time(f), x.net(f, 1), x.net(0, f), x.gives(f, 1), x.gives(0, f), x.kind(f, 1), x.kind(0, f),
        x.rival(f, 0, 1), x.rival(0, f, 1), x.way(f, 0), x.way(0, f), x.feed(0, f), x.sheet(f, 8, 1),
        x.sheet(0, f, 1), x.write(f, 0, 1), x.write(0, f, 1), x.copy(f, 0, 0, 0, 1),
        x.copy(0, f, 0, 0, 1), x.copy(0, 0, f, 0, 1), x.copy(0, 0, 0, f, 1), x.copy(0, 0, 0, 0, f),
        x.lays(f), x.book(f, 0), x.book(0, f), x.read(f, 0), x.read(0, f), x.count(f), x.status(f)
      };
      for (int i = 0; i < answers.length; i++) {
        due(39, "call " + i + " with " + f, answers[i], BEYOND);
      }
    }
    due(39, "status(0)", x.status(0), 4 * 63);
    due(39, "count(0)", x.count(0), 1);
    due(39, "count(2)", x.count(2), 1);
    due(39, "of(0, 0)", x.of(0, 0), 2);
    due(39, "of(0, 1)", x.of(0, 1), 3);
    due(39, "of(0, 3)", x.of(0, 3), 40);
    due(39, "told(0, 0)", x.told(0, 0), 11);
    due(39, "told(0, 1)", x.told(0, 1), 10);
    due(39, "now(0)", x.now(0), 0);
    due(39, "write(0, 0, 77)", x.write(0, 0, 77), 77);
  }

  /** Eight things and five boats, all in one column by day: every loop goes to its end. */
  private static void fullLake() {
    GlintNets x = at(8);
    for (int i = 0; i < 8; i++) {
      x.thing(0, 7, 6);
      x.set(i, 3, 10 + i);
    }
    for (int i = 0; i < 5; i++) {
      x.boat(47);
      x.fit(i, 1, 99);
    }
    // In the last row each of 10 and 11 gives 1, of 12 to 17 gives 2.
    due(3, "cell(47, 0)", x.cell(47, 0), 14);
    due(3, "cell(47, 1)", x.cell(47, 1), 255);
    due(3, "cell(47, 2)", x.cell(47, 2), 31);
    due(3, "cell(47, 3)", x.cell(47, 3), 8);
    due(13, "now(4)", x.now(4), 108);
    due(13, "now(6)", x.now(6), 0);
    due(22, "gives(0, 1)", x.gives(0, 1), 2);
    x.set(7, 3, 18);
    due(22, "gives(0, 1), the last", x.gives(0, 1), 7);
    due(19, "spot(4, 1)", x.spot(4, 1), 7);
    // The lights are 10 to 16 and 18, and one less for each boat: 15, 13, 12, 11, 10.
    due(12, "hours(1)", x.hours(1), -40);
    due(38, "count(4)", x.count(4), 61);
    for (int i = 0; i < 5; i++) {
      due(10, "told(" + i + ", 2)", x.told(i, 2), new int[] {15, 13, 12, 11, 10}[i]);
    }
    due(13, "now(4)", x.now(4), 109 - 40);
    x.image();
    x.set(7, 3, 0);
    x.fit(4, 0, 0);
    due(36, "undo()", x.undo(), 8);
    due(36, "of(7, 3)", x.of(7, 3), 13);
    due(36, "told(4, 0)", x.told(4, 0), 47);
    // Hours 9 to 20 go, the last of them with the sale, for the fifth boat too.
    int coins = x.on(4, 11, 1);
    int hold = x.on(4, 11, 0);
    x.wind(1, 1);
    due(12, "hours(12)", x.hours(12), -40 + 61);
    due(12, "told(4, 2), sold", x.told(4, 2), 0);
    due(12, "told(4, 3), sold", x.told(4, 3), -8 + 10);
    due(14, "on(4, 11, ..) before was more than nothing", coins < -8 && hold > 10 ? 1 : 0, 1);
    everyCellCosts();
  }

  /** Towers in all rows of all columns, each dearer than what the net takes: the least loss is best. */
  private static void everyCellCosts() {
    GlintNets x = new GlintNets();
    for (int column = 0; column < 8; column++) {
      x.thing(1, column, 6);
      x.set(column, 4, column == 5 ? 8 : 9);
    }
    x.boat(0);
    x.fit(0, 1, 2);
    due(19, "spot(0, 1), a loss everywhere", x.spot(0, 1), 5);
    due(21, "net(0, 1), a loss with the smallest nets", x.net(0, 1), 40);
    due(18, "brightest()", x.brightest(), 0);
  }
}
