import java.io.IOException;
import java.nio.charset.StandardCharsets;
import java.nio.file.Files;
import java.nio.file.Path;
import java.util.Arrays;
import java.util.BitSet;
import java.util.HashMap;
import java.util.HashSet;
import java.util.Map;
import java.util.Set;
import java.util.TreeMap;
import java.util.regex.Matcher;
import java.util.regex.Pattern;

/**
 * The document read again, sentence by sentence: each is quoted by says(), and what stands below it is
 * the test of the boundaries that it names. Whether the document has these words, whether a sentence
 * was passed over, and whether each finding of a promise was answered, is looked up, too.
 *
 * <p>A refused call is made on one of two equal lakes; both must tell the same behind it, but for one
 * finding more in status().
 */
public final class EdgeTest {
  private static final long BEYOND = -1000000001L;
  private static final long FULL = -1000000002L;
  private static final long KIND = -1000000003L;
  private static final long NONE = -1000000004L;
  private static final long STATE = -1000000005L;
  private static final long MISSING = -1000000006L;
  private static final long SIZE = -1000000007L;
  private static final String[] FINDINGS = {"BEYOND", "FULL", "KIND", "NONE", "STATE", "MISSING", "SIZE"};

  private static final int LEAST = Integer.MIN_VALUE;
  private static final int MOST = Integer.MAX_VALUE;
  private static final int TERMS = 0;

  private static final Path DOCUMENT = Path.of("../shared/DOC.md");
  /** What of the document tells nothing that could be tested; all else must be quoted. */
  private static final Pattern HEADINGS = Pattern.compile(
      "## Terms|## Promise \\d+: .*?`:|\\d\\. |```text|```|THE LAKE:|AN HOUR goes:|ITEM:|THE READER, who buys seconds:"
      + "|Ahead of the calls .*? the interface says: ---- [a-z, ]+\\.");

  interface Call {
    long on(GlintNets x);
  }

  interface State {
    GlintNets make();
  }

  private static final Map<Integer, String> sections = new TreeMap<>();
  private static final Map<Integer, BitSet> quoted = new HashMap<>();
  private static final Set<String> answered = new HashSet<>();
  private static int promise = TERMS;
  private static String words = "";
  private static int asked = 0;
  private static int wrong = 0;

  // ---- how a test is told

  private static void fail(String what) {
    wrong++;
    System.out.println(what);
  }

  private static void readDocument() throws IOException {
    String text = Files.readString(DOCUMENT, StandardCharsets.UTF_8).replaceAll("\\s+", " ");
    Matcher head = Pattern.compile("## (Terms|Promise (\\d+):|Not promised)").matcher(text);
    int number = -1;
    int from = 0;
    while (head.find()) {
      if (number >= 0) {
        sections.put(number, text.substring(from, head.start()));
      }
      from = head.start();
      number = head.group(1).equals("Terms") ? TERMS : head.group(2) == null ? -1 : Integer.parseInt(head.group(2));
    }
  }

  /** What follows is the test of these words of the terms or of a promise. */
  private static void says(int section, String quote) {
    promise = section;
    words = quote;
    String text = sections.getOrDefault(section, "");
    BitSet marks = quoted.computeIfAbsent(section, s -> new BitSet());
    int at = text.indexOf(quote);
    if (at < 0) {
      fail("section " + section + " does not say: " + quote);
    }
    while (at >= 0) {
      marks.set(at, at + quote.length());
      at = text.indexOf(quote, at + 1);
    }
  }

  private static void due(String call, long got, long want) {
    asked++;
    if (want <= BEYOND && want >= SIZE) {
      answered.add(promise + " " + FINDINGS[(int) (BEYOND - want)]);
    }
    if (got != want) {
      fail("promise " + promise + " (" + words + "): " + call + " answered " + got + ", due is " + want);
    }
  }

  /** A call that is refused, and changes nothing but status(). */
  private static void refused(String call, State state, Call made, long want) {
    GlintNets x = state.make();
    GlintNets y = state.make();
    due(call, made.on(x), want);
    int which = (int) (BEYOND - want);
    for (int i = -1; i <= 6; i++) {
      due("status(" + i + ") behind " + call, x.status(i), y.status(i) + (i == -1 || i == which ? 1 : 0));
    }
    sameLakes(call, x, y);
  }

  /** A call that only asks: whatever it answers, all is as it was. */
  private static void onlyAsks(String call, State state, Call made) {
    GlintNets x = state.make();
    made.on(x);
    sameLakes(call, x, state.make());
  }

  private static void sameLakes(String call, GlintNets x, GlintNets y) {
    due("all that can be told behind " + call, Arrays.mismatch(tellAll(x), tellAll(y)), -1);
  }

  /** All that a lake tells of itself, its tape and its image; the lake is used up by it. */
  private static long[] tellAll(GlintNets x) {
    long[] told = new long[300];
    int n = tellState(x, told, 0);
    for (int s = 0; s < 4; s++) {
      for (int i = 0; i < 4; i++) {
        told[n++] = x.write(s, i, 0);
      }
    }
    told[n++] = x.lake();
    told[n++] = x.now(2);
    told[n++] = x.now(3);
    told[n++] = x.undo();
    n = tellState(x, told, n);
    return Arrays.copyOf(told, n);
  }

  private static int tellState(GlintNets x, long[] told, int from) {
    int n = from;
    for (int what = 0; what < 5; what++) {
      told[n++] = x.count(what);
    }
    for (int what = 0; what < 7; what++) {
      told[n++] = x.now(what);
    }
    for (int thing = 0; thing < 8; thing++) {
      for (int what = 0; what < 5; what++) {
        told[n++] = x.of(thing, what);
      }
    }
    for (int boat = 0; boat < 5; boat++) {
      for (int what = 0; what < 4; what++) {
        told[n++] = x.told(boat, what);
      }
    }
    return n;
  }

  // ---- lakes to test on

  private static GlintNets bare() {
    return new GlintNets();
  }

  /** Two things and two boats by day, three sheets and one MISSING, an image, a tape. */
  private static GlintNets busy() {
    GlintNets x = new GlintNets();
    x.thing(4, 3, 2);
    x.set(0, 3, 50);
    x.set(0, 4, 5);
    x.thing(5, 0, 6);
    x.boat(3);
    x.boat(0);
    x.fit(0, 1, 30);
    x.hours(9);
    x.wind(0, 66);
    x.sheet(0, 8, 3);
    x.write(0, 0, 1);
    x.write(0, 1, 200);
    x.write(0, 2, 99);
    x.sheet(1, 16, 2);
    x.write(1, 1, 300);
    x.sheet(2, 64, 0);
    x.image();
    x.set(1, 3, 77);
    x.fit(1, 0, 8);
    tell(x, "fog;wind 7");
    return x;
  }

  /** Eight things, five boats, 120 bytes, the last hour, fog, no image. */
  private static GlintNets crowded() {
    GlintNets x = new GlintNets();
    for (int i = 0; i < 8; i++) {
      x.thing(0, i, 1);
    }
    for (int i = 0; i < 5; i++) {
      x.boat(i);
    }
    pass(x, 9999);
    x.wind(1, 1);
    tell(x, "fog;".repeat(29) + "wind");
    return x;
  }

  private static GlintNets at(int hour) {
    GlintNets x = new GlintNets();
    pass(x, hour);
    return x;
  }

  private static void pass(GlintNets x, int hours) {
    int left = hours;
    while (left > 0) {
      int n = Math.min(60, left);
      x.hours(n);
      left -= n;
    }
  }

  /** A new thing with LIGHT and FEE. */
  private static int put(GlintNets x, int kind, int column, int height, int light, int fee) {
    int thing = x.thing(kind, column, height);
    x.set(thing, 3, light);
    x.set(thing, 4, fee);
    return thing;
  }

  /** A new boat with a NET. */
  private static int launch(GlintNets x, int cell, int net) {
    int boat = x.boat(cell);
    x.fit(boat, 1, net);
    return boat;
  }

  private static void tell(GlintNets x, String text) {
    for (int i = 0; i < text.length(); i += 4) {
      int n = Math.min(4, text.length() - i);
      int bytes = 0;
      for (int k = 0; k < n; k++) {
        bytes = bytes << 8 | text.charAt(i + k) & 255;
      }
      x.feed(bytes, n);
    }
  }

  private static int lakeOf(GlintNets x, String text) {
    x.wipe();
    tell(x, text);
    return x.lake();
  }

  public static void main(String[] args) throws IOException {
    readDocument();
    terms();
    theLake();
    theThings();
    reach();
    shine();
    taxed();
    glint();
    theBoats();
    anHour();
    coinsAreHeld();
    theText();
    faults();
    onAndSheets();
    promises1To11();
    promises12To17();
    promises18To25();
    promises26To28();
    promises29To34();
    promises35To39();
    everySentenceIsQuoted();
    everyFindingWasAnswered();
    System.out.println(wrong == 0 ? asked + " answers are as due" : wrong + " things are not as due");
    if (wrong != 0) {
      System.exit(1);
    }
  }

  /** A stretch that no test quotes may hold headings, and signs between two quotes. */
  private static void everySentenceIsQuoted() {
    due("sections of the document", sections.size(), 40);
    for (Map.Entry<Integer, String> section : sections.entrySet()) {
      String text = section.getValue();
      BitSet marks = quoted.getOrDefault(section.getKey(), new BitSet());
      int from = marks.nextClearBit(0);
      while (from < text.length()) {
        int next = marks.nextSetBit(from);
        int to = next < 0 ? text.length() : next;
        String left = HEADINGS.matcher(text.substring(from, to)).replaceAll("");
        if (!left.matches("[ .;:,]*")) {
          fail("section " + section.getKey() + ": no test quotes: " + left);
        }
        from = marks.nextClearBit(to);
      }
    }
  }

  private static void everyFindingWasAnswered() {
    for (int p = 1; p <= 39; p++) {
      // KIND is a term, too (as a finding it is told with what it is for), and status counts all of them.
      String text = sections.getOrDefault(p, "").replace("one of another KIND:", "").replace("BEYOND to SIZE", "");
      for (String finding : FINDINGS) {
        String name = finding.equals("KIND") ? "KIND:" : finding;
        boolean named = Pattern.compile("\\b" + name).matcher(text).find();
        if (named && !answered.contains(p + " " + finding)) {
          fail("promise " + p + " names " + finding + ", which no test has answered");
        }
      }
    }
  }

  // ---- terms

  private static void terms() {
    says(TERMS, "FINDINGS are answers below -1000000000: -1000000001 BEYOND, -1000000002 FULL, -1000000003 KIND, "
        + "-1000000004 NONE, -1000000005 STATE, -1000000006 MISSING, -1000000007 SIZE (in longs, too).");
    due("boat(48)", bare().boat(48), -1000000001L);
    due("boat(0), a sixth", crowded().boat(0), -1000000002L);
    due("as(0, 1)", crowded().as(0, 1), -1000000003L);
    due("brightest()", bare().brightest(), -1000000004L);
    due("hours(1)", crowded().hours(1), -1000000005L);
    due("lays(0)", bare().lays(0), -1000000006L);
    due("sheet(0, 8, -1)", bare().sheet(0, 8, -1), -1000000007L);
    due("write(4, 0, 0), a long", bare().write(4, 0, 0), -1000000001L);
    due("write(0, 0, 0), a long", bare().write(0, 0, 0), -1000000006L);

    says(TERMS, "Each act tells its findings in the order in which they are asked; "
        + "one that answers a finding changes nothing but status().");
    refused("thing(6, 0, 1): BEYOND before FULL", EdgeTest::crowded, x -> x.thing(6, 0, 1), BEYOND);
    refused("boat(48): BEYOND before FULL", EdgeTest::crowded, x -> x.boat(48), BEYOND);
    refused("as(8, 1): BEYOND before KIND", EdgeTest::crowded, x -> x.as(8, 1), BEYOND);
    refused("as(0, 6): BEYOND before KIND", EdgeTest::crowded, x -> x.as(0, 6), BEYOND);
    refused("hours(61): BEYOND before STATE", EdgeTest::crowded, x -> x.hours(61), BEYOND);
    refused("feed(0, 5): BEYOND before FULL", EdgeTest::crowded, x -> x.feed(0, 5), BEYOND);
    refused("sheet(4, 8, -1): BEYOND before SIZE", EdgeTest::busy, x -> x.sheet(4, 8, -1), BEYOND);
    refused("sheet(0, 9, -1): BEYOND before SIZE", EdgeTest::busy, x -> x.sheet(0, 9, -1), BEYOND);
    refused("write(3, 99, 1): MISSING before BEYOND", EdgeTest::busy, x -> x.write(3, 99, 1), MISSING);
    refused("copy(3, 0, 4, 0, 1): BEYOND before MISSING", EdgeTest::busy, x -> x.copy(3, 0, 4, 0, 1), BEYOND);
    refused("copy(3, 9, 0, 0, 1): MISSING before BEYOND", EdgeTest::busy, x -> x.copy(3, 9, 0, 0, 1), MISSING);
    refused("copy(0, 9, 1, 0, 1): KIND before BEYOND", EdgeTest::busy, x -> x.copy(0, 9, 1, 0, 1), KIND);
    refused("copy(0, 0, 1, 0, -1): KIND before BEYOND", EdgeTest::busy, x -> x.copy(0, 0, 1, 0, -1), KIND);
    refused("book(3, 9): MISSING before BEYOND", EdgeTest::busy, x -> x.book(3, 9), MISSING);
    refused("read(3, 9): MISSING before BEYOND", EdgeTest::busy, x -> x.read(3, 9), MISSING);
    refused("way(1, 48): BEYOND before NONE", EdgeTest::busy, x -> x.way(1, 48), BEYOND);
    refused("full(2, 999): BEYOND before NONE", EdgeTest::busy, x -> x.full(2, 999), BEYOND);
    refused("gives(0, 25): BEYOND before NONE", EdgeTest::crowded, x -> x.gives(0, 25), BEYOND);

    says(TERMS, "Quotients are cut.");
    GlintNets x = bare();
    put(x, 0, 0, 6, 5, 1);
    put(x, 3, 1, 1, 5, 1);
    due("cell(8, 0), 5 by 2", x.cell(8, 0), 2);
    due("cell(40, 0), 5 by 6", x.cell(40, 0), 0);
    due("cell(1, 0), half of 5", x.cell(1, 0), 2);
    x.wind(0, 1);
    due("cell(0, 0), a third of 5", x.cell(0, 0), 1);

    says(TERMS, "Sets are told by bits.");
    x = crowded();
    due("cell(0, 1)", x.cell(0, 1), 1);
    due("cell(7, 1)", x.cell(7, 1), 128);
    due("cell(4, 2)", x.cell(4, 2), 16);
    due("cell(5, 2)", x.cell(5, 2), 0);
    for (int i = 0; i < 8; i++) {
      x.set(i, 1, 7);
      x.set(i, 3, 0);
    }
    due("cell(7, 1)", x.cell(7, 1), 255);
    due("now(6)", x.now(6), 255);
    for (int i = 0; i < 5; i++) {
      x.fit(i, 0, 47);
    }
    due("cell(47, 2)", x.cell(47, 2), 31);
  }

  private static void theLake() {
    says(TERMS, "CELLS 0 to 47, in 6 rows (row: by 8; 0 at the bank) of 8 columns (column: the rest).");
    GlintNets x = bare();
    put(x, 0, 7, 6, 60, 1);
    int[] byRow = {60, 30, 20, 15, 12, 10};
    for (int cell = 0; cell < 48; cell++) {
      due("cell(" + cell + ", 0)", x.cell(cell, 0), cell % 8 == 7 ? byRow[cell / 8] : 0);
    }
    due("cell(48, 0)", x.cell(48, 0), BEYOND);
    due("cell(-1, 0)", x.cell(-1, 0), BEYOND);

    says(TERMS, "BESIDE a CELL: those up, right, down, left of it that there are.");
    x = bare();
    due("way(0, 1)", x.way(0, 1), 1);
    due("way(0, 8)", x.way(0, 8), 1);
    due("way(47, 46)", x.way(47, 46), 1);
    due("way(47, 39)", x.way(47, 39), 1);
    due("way(0, 9), not across", x.way(0, 9), 2);
    due("way(7, 8), not around the rim", x.way(7, 8), 8);
    due("way(8, 7), not around the rim", x.way(8, 7), 8);
    due("way(0, 7), not around the rim", x.way(0, 7), 7);
    due("way(0, 40), not around the rim", x.way(0, 40), 5);

    says(TERMS, "RIPPLES: a set of columns (0 to 255; none at first).");
    due("now(2)", x.now(2), 0);
    due("wind(0, 0)", x.wind(0, 0), 0);
    due("wind(0, 255)", x.wind(0, 255), 0);
    due("wind(0, 256)", x.wind(0, 256), BEYOND);
    due("wind(0, -1)", x.wind(0, -1), BEYOND);
    due("now(2)", x.now(2), 255);
    for (int column = 0; column < 8; column++) {
      x.wind(0, 1 << column);
      for (int other = 0; other < 8; other++) {
        due("way(" + other + ", " + (other + 8) + ") with ripples at " + column, x.way(other, other + 8),
            other == column ? NONE : 1);
      }
    }

    says(TERMS, "HOUR: 0 at first (9999 at most); THE CLOCK: its rest by 24.");
    x = bare();
    due("now(0)", x.now(0), 0);
    due("now(1)", x.now(1), 0);
    pass(x, 23);
    due("now(1) at 23", x.now(1), 23);
    x.hours(1);
    due("now(1) at 24", x.now(1), 0);
    due("now(0) at 24", x.now(0), 24);
    pass(x, 9999 - 24);
    due("now(0)", x.now(0), 9999);
    due("now(1)", x.now(1), 15);
    due("hours(1)", x.hours(1), STATE);
    due("now(0)", x.now(0), 9999);

    says(TERMS, "FOG: 0 or 1 (0 at first).");
    x = bare();
    due("now(3)", x.now(3), 0);
    due("wind(1, 1)", x.wind(1, 1), 0);
    due("wind(1, 2)", x.wind(1, 2), BEYOND);
    due("wind(1, -1)", x.wind(1, -1), BEYOND);
    due("now(3)", x.now(3), 1);
  }

  private static void theThings() {
    says(TERMS, "THINGS 0, 1, .. (at most 8) are of KINDS: 0 THING, 1 TOWER under THING, 2 BRIDE under THING, "
        + "3 MOON under THING, 4 STEEPLE under TOWER, 5 FACE under BRIDE");
    GlintNets x = bare();
    for (int i = 0; i < 8; i++) {
      due("thing(" + i % 6 + ", 0, 1)", x.thing(i % 6, 0, 1), i);
    }
    due("thing(0, 0, 1), a ninth", x.thing(0, 0, 1), FULL);
    due("count(0)", x.count(0), 8);
    int[] kinds = {1, 3, 5, 9, 19, 37};
    for (int kind = 0; kind < 6; kind++) {
      for (int asked = 0; asked < 6; asked++) {
        due("as(" + kind + ", " + asked + ")", x.as(kind, asked), (kinds[kind] >> asked & 1) == 1 ? 40 : KIND);
      }
    }

    says(TERMS, "each at a column, with a HEIGHT (1 to 6), LIGHT (0 to 99; 40 at first) and a FEE (0 to 9; 1 at first).");
    x = bare();
    x.thing(0, 7, 6);
    int[][] limits = {{1, 0, 7, 7}, {2, 1, 6, 6}, {3, 0, 99, 40}, {4, 0, 9, 1}};
    for (int[] l : limits) {
      String set = "set(0, " + l[0] + ", ";
      due("of(0, " + l[0] + ") at first", x.of(0, l[0]), l[3]);
      due(set + l[1] + ")", x.set(0, l[0], l[1]), l[3]);
      due(set + (l[1] - 1) + "), too small", x.set(0, l[0], l[1] - 1), BEYOND);
      due(set + l[2] + ")", x.set(0, l[0], l[2]), l[1]);
      due(set + (l[2] + 1) + "), too large", x.set(0, l[0], l[2] + 1), BEYOND);
      due("of(0, " + l[0] + ")", x.of(0, l[0]), l[2]);
    }
  }

  /** REACH of one thing of a kind and height at an hour. */
  private static int reachOf(int kind, int height, int hour) {
    GlintNets x = at(hour);
    x.thing(kind, 0, height);
    return x.of(0, 5);
  }

  private static void reach() {
    says(TERMS, "REACH (how many rows it is mirrored in, from the bank on): THING: HEIGHT.");
    GlintNets x = bare();
    x.thing(0, 2, 1);
    due("cell(2, 1), height 1", x.cell(2, 1), 1);
    due("cell(10, 1), height 1", x.cell(10, 1), 0);
    x.set(0, 2, 6);
    due("cell(42, 1), height 6", x.cell(42, 1), 1);
    for (int height = 1; height <= 6; height++) {
      due("of(0, 5), height " + height, reachOf(0, height, 7), height);
    }

    says(TERMS, "TOWER: as THING, and 1 (6 at most).");
    for (int height = 1; height <= 6; height++) {
      due("of(0, 5), height " + height, reachOf(1, height, 7), new int[] {2, 3, 4, 5, 6, 6}[height - 1]);
    }

    says(TERMS, "BRIDE: as THING, if THE CLOCK is 8 to 17, else 0.");
    int[][] day = {{0, 0}, {7, 0}, {8, 4}, {17, 4}, {18, 0}, {31, 0}, {32, 4}, {41, 4}, {42, 0}};
    for (int[] d : day) {
      due("of(0, 5) at hour " + d[0], reachOf(2, 4, d[0]), d[1]);
      due("of(0, 5), a face, at hour " + d[0], reachOf(5, 4, d[0]), d[1]);
    }

    says(TERMS, "MOON: 6, if THE CLOCK is below 6 or above 17, else 0.");
    int[][] night = {{0, 6}, {5, 6}, {6, 0}, {17, 0}, {18, 6}, {23, 6}, {24, 6}, {29, 6}, {30, 0}, {41, 0}, {42, 6}};
    for (int[] n : night) {
      due("of(0, 5) at hour " + n[0], reachOf(3, 1, n[0]), n[1]);
    }

    says(TERMS, "STEEPLE: as TOWER in even HOURS, else half of as TOWER.");
    int[] even = {2, 3, 4, 5, 6, 6};
    int[] odd = {1, 1, 2, 2, 3, 3};
    for (int height = 1; height <= 6; height++) {
      due("of(0, 5), height " + height + ", hour 0", reachOf(4, height, 0), even[height - 1]);
      due("of(0, 5), height " + height + ", hour 1", reachOf(4, height, 1), odd[height - 1]);
    }
    for (int hour = 0; hour < 49; hour++) {
      due("of(0, 5), height 4, hour " + hour, reachOf(4, 4, hour), hour % 2 == 0 ? 5 : 2);
    }
  }

  /** GLINT of the six rows of a column in which one thing stands. */
  private static void rows(int kind, int light, int hour, int... want) {
    GlintNets x = at(hour);
    put(x, kind, 3, 6, light, 1);
    int all = 0;
    for (int r = 0; r < 6; r++) {
      due("cell(" + (8 * r + 3) + ", 0), kind " + kind + ", light " + light, x.cell(8 * r + 3, 0), want[r]);
      all += want[r];
    }
    due("of(0, 7), kind " + kind + ", light " + light, x.of(0, 7), all);
  }

  private static void shine() {
    says(TERMS, "SHINE (in a row r in which it is mirrored): THING: LIGHT by (r and 1).");
    rows(0, 0, 0, 0, 0, 0, 0, 0, 0);
    rows(0, 5, 0, 5, 2, 1, 1, 1, 0);
    rows(0, 99, 0, 99, 49, 33, 24, 19, 16);

    says(TERMS, "BRIDE: twice as THING.");
    rows(2, 0, 8, 0, 0, 0, 0, 0, 0);
    rows(2, 5, 8, 10, 4, 2, 2, 2, 0);
    rows(2, 5, 7, 0, 0, 0, 0, 0, 0);

    says(TERMS, "MOON: half of as THING.");
    rows(3, 1, 0, 0, 0, 0, 0, 0, 0);
    rows(3, 7, 0, 3, 1, 1, 0, 0, 0);
    rows(3, 7, 6, 0, 0, 0, 0, 0, 0);

    says(TERMS, "STEEPLE: as TOWER, and r.");
    rows(4, 0, 0, 0, 1, 2, 3, 4, 5);
    rows(4, 5, 0, 5, 3, 3, 4, 5, 5);
    rows(4, 5, 1, 5, 3, 3, 0, 0, 0);

    says(TERMS, "FACE: as BRIDE, and 3, if LIGHT is above 0.");
    rows(5, 0, 8, 0, 0, 0, 0, 0, 0);
    rows(5, 1, 8, 5, 3, 3, 3, 3, 3);
    rows(5, 5, 17, 13, 7, 5, 5, 5, 3);
    rows(5, 5, 18, 0, 0, 0, 0, 0, 0);

    says(TERMS, "(Others as the KIND above.)");
    rows(1, 5, 0, 5, 2, 1, 1, 1, 0);
    due("of(0, 5), a face by day", reachOf(5, 6, 12), 6);
    due("of(0, 5), a face by night", reachOf(5, 6, 0), 0);
    due("of(0, 6), a tower", taxOf(1, 7), 7);
    due("of(0, 6), a steeple", taxOf(4, 7), 7);
  }

  private static int taxOf(int kind, int fee) {
    GlintNets x = bare();
    put(x, kind, 0, 1, 40, fee);
    return x.of(0, 6);
  }

  private static void taxed() {
    says(TERMS, "TAXED (what a boat pays that takes from a CELL where it is mirrored): THING: FEE.");
    due("of(0, 6), fee 0", taxOf(0, 0), 0);
    due("of(0, 6), fee 9", taxOf(0, 9), 9);
    says(TERMS, "BRIDE: as THING, and 2.");
    due("of(0, 6), fee 0", taxOf(2, 0), 2);
    due("of(0, 6), fee 9", taxOf(2, 9), 11);
    says(TERMS, "MOON: 0.");
    due("of(0, 6), fee 0", taxOf(3, 0), 0);
    due("of(0, 6), fee 9", taxOf(3, 9), 0);
    says(TERMS, "FACE: twice as BRIDE.");
    due("of(0, 6), fee 0", taxOf(5, 0), 4);
    due("of(0, 6), fee 9", taxOf(5, 9), 22);
  }

  private static void glint() {
    says(TERMS, "GLINT of a CELL: SHINE of all THINGS of its column that are mirrored in its row, together; "
        + "a third of that, if its column has RIPPLES; 0 in FOG.");
    GlintNets x = bare();
    due("cell(0, 0), no things", x.cell(0, 0), 0);
    put(x, 0, 0, 1, 2, 1);
    put(x, 0, 0, 2, 2, 1);
    put(x, 0, 1, 1, 2, 1);
    due("cell(0, 0)", x.cell(0, 0), 4);
    due("cell(8, 0), one of them", x.cell(8, 0), 1);
    due("cell(1, 0)", x.cell(1, 0), 2);
    x.wind(0, 1);
    due("cell(0, 0), a third of both together", x.cell(0, 0), 1);
    due("cell(8, 0), a third of 1", x.cell(8, 0), 0);
    due("cell(1, 0), no ripples there", x.cell(1, 0), 2);
    x.wind(1, 1);
    for (int cell = 0; cell < 48; cell++) {
      due("cell(" + cell + ", 0) in fog", x.cell(cell, 0), 0);
    }
    x.wind(1, 0);
    due("cell(1, 0), the fog gone", x.cell(1, 0), 2);
    x = bare();
    for (int i = 0; i < 8; i++) {
      put(x, 3, 7, 1, 99, 9);
    }
    due("cell(47, 0), all that there may be", x.cell(47, 0), 64);
    due("cell(7, 0), all that there may be", x.cell(7, 0), 8 * 49);
  }

  private static void theBoats() {
    says(TERMS, "BOATS 0, 1, .. (at most 5), each AT a CELL, with a NET (0 to 99; 10 at first), "
        + "a HOLD (0 at first, 999 at most), COINS (0 at first, held to -99999 and 99999).");
    GlintNets x = bare();
    for (int i = 0; i < 5; i++) {
      due("boat(47)", x.boat(47), i);
    }
    due("boat(47), a sixth", x.boat(47), FULL);
    int[] first = {47, 10, 0, 0};
    for (int what = 0; what < 4; what++) {
      due("told(4, " + what + ")", x.told(4, what), first[what]);
    }
    due("fit(4, 1, 0)", x.fit(4, 1, 0), 10);
    due("fit(4, 1, -1)", x.fit(4, 1, -1), BEYOND);
    due("fit(4, 1, 99)", x.fit(4, 1, 99), 0);
    due("fit(4, 1, 100)", x.fit(4, 1, 100), BEYOND);
    due("told(4, 1)", x.told(4, 1), 99);
  }

  /** A boat with 998 in its hold, by ten hours of 99 and one of 8, at hour 11; lights 90 each. */
  private static GlintNets almostFull() {
    GlintNets x = bare();
    put(x, 0, 0, 1, 99, 1);
    put(x, 0, 0, 1, 99, 1);
    launch(x, 0, 99);
    x.hours(10);
    x.fit(0, 1, 8);
    x.hours(1);
    x.fit(0, 1, 99);
    return x;
  }

  private static void anHour() {
    says(TERMS, "BOATS by numbers (each by what is so then)");
    GlintNets x = bare();
    put(x, 0, 0, 1, 1, 1);
    x.boat(0);
    x.boat(0);
    due("hours(1), the second finds nothing and pays nothing", x.hours(1), -1);
    due("told(0, 2)", x.told(0, 2), 1);
    due("told(1, 2)", x.told(1, 2), 0);
    due("told(1, 3)", x.told(1, 3), 0);

    says(TERMS, "it TAKES GLINT of its CELL, but no more than its NET, nor than HOLD may hold more;");
    x = bare();
    put(x, 0, 0, 1, 11, 0);
    x.boat(0);
    due("told(0, 4), the net of 10", x.told(0, 4), 10);
    x.set(0, 3, 10);
    due("told(0, 4), both are 10", x.told(0, 4), 10);
    x.set(0, 3, 9);
    due("told(0, 4), the glint of 9", x.told(0, 4), 9);
    x.hours(1);
    due("told(0, 2)", x.told(0, 2), 9);
    x = almostFull();
    due("told(0, 2)", x.told(0, 2), 998);
    due("told(0, 4), one may come", x.told(0, 4), 1);
    due("hours(1)", x.hours(1), -24);
    due("told(0, 2)", x.told(0, 2), 999);
    due("told(0, 4), none may come", x.told(0, 4), 0);

    says(TERMS, "if that is above 0, HOLD is so much more, each THING mirrored there has 1 less LIGHT (0 at least), "
        + "and COINS are less by what all these are TAXED.");
    due("of(0, 3)", x.of(0, 3), 90);
    due("hours(1), a full hold takes and pays nothing", x.hours(1), -24);
    due("of(0, 3), none the less", x.of(0, 3), 90);
    due("of(1, 3), none the less", x.of(1, 3), 90);
    x = bare();
    put(x, 0, 0, 1, 40, 1);
    launch(x, 0, 0);
    due("hours(1) with a net of 0", x.hours(1), 0);
    due("of(0, 3)", x.of(0, 3), 40);
    x.fit(0, 1, 10);
    x.wind(1, 1);
    due("hours(1) in fog", x.hours(1), 0);
    due("of(0, 3)", x.of(0, 3), 40);
    x = bare();
    put(x, 0, 0, 1, 5, 2);
    put(x, 0, 0, 1, 0, 3);
    put(x, 0, 1, 1, 5, 9);
    x.boat(0);
    due("hours(1), a dark thing is paid for, too", x.hours(1), -5);
    due("of(0, 3)", x.of(0, 3), 4);
    due("of(1, 3), 0 at least", x.of(1, 3), 0);
    due("of(2, 3), another column", x.of(2, 3), 5);
    x = bare();
    put(x, 1, 0, 1, 40, 1);
    put(x, 0, 0, 1, 40, 9);
    launch(x, 8, 99);
    due("hours(1), the thing isn't mirrored in that row", x.hours(1), -1);
    due("of(0, 3)", x.of(0, 3), 39);
    due("of(1, 3)", x.of(1, 3), 40);
    x = bare();
    put(x, 4, 0, 6, 0, 1);
    x.boat(40);
    due("hours(1), a dark steeple gives its row", x.hours(1), -1);
    due("told(0, 2)", x.told(0, 2), 5);
    due("of(0, 3)", x.of(0, 3), 0);

    says(TERMS, "Then, if THE CLOCK is 20, each BOAT sells: COINS are more by HOLD, HOLD is 0.");
    x = at(19);
    put(x, 0, 0, 1, 40, 0);
    x.boat(0);
    due("hours(1), hour 19", x.hours(1), 0);
    due("told(0, 2)", x.told(0, 2), 10);
    due("hours(1), hour 20, what it took then, too", x.hours(1), 20);
    due("told(0, 2)", x.told(0, 2), 0);
    due("hours(1), hour 21", x.hours(1), 20);
    due("told(0, 2)", x.told(0, 2), 10);
    due("hours(22), to the next day's sale", x.hours(22), 20);
    due("told(0, 2)", x.told(0, 2), 230);
    due("hours(1), hour 44", x.hours(1), 260);
    due("told(0, 2)", x.told(0, 2), 0);
    x = almostFull();
    x.hours(9);
    due("told(0, 2), full at hour 20", x.told(0, 2), 999);
    due("hours(1), a full hold is sold", x.hours(1), -24 + 999);
    due("told(0, 2)", x.told(0, 2), 0);

    says(TERMS, "If the rest of HOUR by 4 is 3, each THING has 1 more LIGHT (99 at most). HOUR is 1 more.");
    x = bare();
    put(x, 0, 0, 1, 98, 1);
    put(x, 3, 7, 1, 0, 1);
    x.hours(3);
    due("of(0, 3), hours 0 to 2", x.of(0, 3), 98);
    x.hours(1);
    due("of(0, 3), hour 3", x.of(0, 3), 99);
    due("of(1, 3), hour 3", x.of(1, 3), 1);
    x.hours(3);
    due("of(1, 3), hours 4 to 6", x.of(1, 3), 1);
    x.hours(1);
    due("of(0, 3), hour 7, 99 at most", x.of(0, 3), 99);
    due("of(1, 3), hour 7", x.of(1, 3), 2);
    due("now(0)", x.now(0), 8);
    x = at(3);
    put(x, 0, 0, 1, 99, 1);
    put(x, 0, 1, 1, 1, 1);
    put(x, 0, 2, 1, 0, 1);
    x.boat(0);
    x.boat(1);
    x.boat(2);
    x.hours(1);
    due("of(0, 3), taken first", x.of(0, 3), 99);
    due("of(1, 3), taken first", x.of(1, 3), 1);
    due("of(2, 3), too late to be taken", x.of(2, 3), 1);
    due("told(2, 2)", x.told(2, 2), 0);
  }

  /** Sets LIGHT of all eight things by a sheet, in one call once the sheet is written. */
  private static void allLights(GlintNets x, int light) {
    x.sheet(3, 8, 8);
    for (int i = 0; i < 8; i++) {
      x.write(3, i, light);
    }
    x.lays(3);
  }

  private static void coinsAreHeld() {
    says(TERMS, "COINS (0 at first, held to -99999 and 99999)");
    // Eight faces at 22 each, ten hours a day; a net of 1 sells 10 of it: 1750 less a day.
    GlintNets x = bare();
    for (int i = 0; i < 8; i++) {
      put(x, 5, 0, 1, 99, 9);
    }
    launch(x, 0, 1);
    allLights(x, 99);
    for (int day = 0; day < 57; day++) {
      x.hours(24);
      x.lays(3);
    }
    due("told(0, 3) behind 57 days", x.told(0, 3), -57 * 1750);
    x.hours(9);
    due("told(0, 3), 176 less", x.told(0, 3), -99750 - 176);
    x.hours(1);
    due("told(0, 3), held", x.told(0, 3), -99999);
    x.hours(8);
    due("told(0, 3), held", x.told(0, 3), -99999);
    due("told(0, 2)", x.told(0, 2), 10);
    due("on(0, 3, 1), the sale counts from there", x.on(0, 3, 1), -99989);
    x.hours(3);
    due("told(0, 3)", x.told(0, 3), -99989);
    // A full hold a day, for no fee.
    x = bare();
    for (int i = 0; i < 8; i++) {
      put(x, 0, 0, 6, 99, 0);
    }
    launch(x, 0, 99);
    allLights(x, 99);
    for (int day = 0; day < 100; day++) {
      x.hours(24);
      x.lays(3);
    }
    due("told(0, 3) behind 100 days", x.told(0, 3), 99900);
    due("hours(20), before the sale", x.hours(20), 99900);
    due("told(0, 2)", x.told(0, 2), 999);
    due("hours(1), held", x.hours(1), 99999);
    due("told(0, 2), sold all the same", x.told(0, 2), 0);
    x.hours(24);
    due("told(0, 3), held", x.told(0, 3), 99999);
    x.set(0, 4, 9);
    x.hours(1);
    due("told(0, 3), less from there", x.told(0, 3), 99990);
  }

  // ---- the text

  private static void theText() {
    says(TERMS, "THE TEXT of a LAKE, from THE TAPE (bytes, at most 120).");
    GlintNets x = bare();
    due("120 bytes", lakeOf(x, "fog;".repeat(29) + "fog "), 30);
    tell(x, "fog;".repeat(30));
    due("count(1)", x.count(1), 120);
    due("feed(0, 1), a 121st", x.feed(0, 1), FULL);
    due("120 bytes that end too early", x.lake(), -121);

    says(TERMS, "TOKENS, each as long as can be: WORDS (letters a to z), NUMBERS (digits, 999 at most), "
        + "SIGN ; ; blanks may stand between.");
    x = bare();
    due("no blanks", lakeOf(x, "tower at7high6light99fee9;boat47net99;wind0;fog"), 4);
    due("of(0, 1)", x.of(0, 1), 7);
    due("of(0, 2)", x.of(0, 2), 6);
    due("of(0, 3)", x.of(0, 3), 99);
    due("of(0, 4)", x.of(0, 4), 9);
    due("told(0, 0)", x.told(0, 0), 47);
    due("told(0, 1)", x.told(0, 1), 99);
    due("many blanks", lakeOf(x, "   moon   at   0   ;   clear   "), 2);
    due("a word goes on to its end", lakeOf(x, "towerat 7"), -1);
    due("a word goes on to its end", lakeOf(x, "fogclear"), -1);
    due("a number goes on to its end", lakeOf(x, "wind 10"), -6);
    due("a blank parts words", lakeOf(x, "fo g"), -1);
    due("a blank parts numbers", lakeOf(x, "boat 4 7"), -8);
    due("zeros before", lakeOf(x, "wind 0007"), 1);
    due("now(2)", x.now(2), 129);
    due("999", lakeOf(x, "wind 999"), -6);
    due("1000", lakeOf(x, "fog;wind 1000"), -10);
    due("two to the 32nd", lakeOf(x, "fog;wind 4294967296"), -10);
    due("two to the 64th and 3", lakeOf(x, "fog;wind 18446744073709551619"), -10);

    says(TERMS, "TEXT: ITEM { ; ITEM }.");
    x = bare();
    due("one item", lakeOf(x, "fog"), 1);
    due("two items", lakeOf(x, "fog;clear"), 2);
    due("none", lakeOf(x, ""), -1);
    due("a sign before", lakeOf(x, ";fog"), -1);
    due("a sign behind", lakeOf(x, "fog;"), -5);
    due("two signs", lakeOf(x, "fog;;fog"), -5);
    due("no sign", lakeOf(x, "fog fog"), -5);

    says(TERMS, "the name of a KIND (thing tower bride moon steeple face), at, a NUMBER (a column), "
        + "perhaps high and a NUMBER (1 to 6; 3 without), perhaps light and a NUMBER (0 to 99), "
        + "perhaps fee and a NUMBER (0 to 9): a new THING;");
    String[] names = {"thing", "tower", "bride", "moon", "steeple", "face"};
    x = bare();
    for (int kind = 0; kind < 6; kind++) {
      due(names[kind], lakeOf(x, names[kind] + " at " + (kind + 2)), 1);
      int[] want = {kind, kind + 2, 3, 40, 1};
      for (int what = 0; what < 5; what++) {
        due("of(" + kind + ", " + what + ")", x.of(kind, what), want[what]);
      }
    }
    due("the least of all", lakeOf(x, "moon at 0 high 1 light 0 fee 0"), 1);
    due("the most of all", lakeOf(x, "face at 7 high 6 light 99 fee 9"), 1);
    int[][] ends = {{3, 0, 1, 0, 0}, {5, 7, 6, 99, 9}};
    for (int i = 0; i < 2; i++) {
      for (int what = 0; what < 5; what++) {
        due("of(" + (6 + i) + ", " + what + ")", x.of(6 + i, what), ends[i][what]);
      }
    }
    due("high 0", lakeOf(bare(), "thing at 0 high 0"), -17);
    due("high 7", lakeOf(bare(), "thing at 0 high 7"), -17);
    due("light 100", lakeOf(bare(), "thing at 0 light 100"), -18);
    due("fee 10", lakeOf(bare(), "thing at 0 fee 10"), -16);
    due("at 8", lakeOf(bare(), "thing at 8"), -10);
    due("high behind light", lakeOf(bare(), "thing at 0 light 1 high 1"), -20);
    due("light behind fee", lakeOf(bare(), "thing at 0 fee 1 light 1"), -18);
    due("high twice", lakeOf(bare(), "thing at 0 high 1 high 1"), -19);

    says(TERMS, "boat, a NUMBER (a CELL), perhaps net and a NUMBER (0 to 99): a new BOAT;");
    x = bare();
    due("boats", lakeOf(x, "boat 0;boat 47 net 0;boat 1 net 99"), 3);
    int[][] boats = {{0, 10}, {47, 0}, {1, 99}};
    for (int i = 0; i < 3; i++) {
      due("told(" + i + ", 0)", x.told(i, 0), boats[i][0]);
      due("told(" + i + ", 1)", x.told(i, 1), boats[i][1]);
      due("told(" + i + ", 2)", x.told(i, 2), 0);
      due("told(" + i + ", 3)", x.told(i, 3), 0);
    }
    due("boat 48", lakeOf(x, "boat 48"), -6);
    due("net 100", lakeOf(x, "boat 0 net 100"), -12);

    says(TERMS, "wind or calm, and a NUMBER (a column): RIPPLES there, or none; fog or clear.");
    x = bare();
    due("wind 0 and 7", lakeOf(x, "wind 0;wind 7;wind 7"), 3);
    due("now(2)", x.now(2), 129);
    due("calm 0, and where it is calm", lakeOf(x, "calm 0;calm 3"), 2);
    due("now(2)", x.now(2), 128);
    due("wind 8", lakeOf(x, "wind 8"), -6);
    due("calm 8", lakeOf(x, "calm 8"), -6);
    due("fog twice", lakeOf(x, "fog;fog"), 2);
    due("now(3)", x.now(3), 1);
    due("clear", lakeOf(x, "clear"), 1);
    due("now(3)", x.now(3), 0);
    due("the last one counts", lakeOf(x, "fog;clear;wind 1;calm 1"), 4);
    due("now(3)", x.now(3), 0);
    due("now(2)", x.now(2), 128);
  }

  /** A text with a fault, told on a lake that has something of all: nothing changes but the tape. */
  private static void fault(State state, String text, int place) {
    GlintNets x = state.make();
    GlintNets y = state.make();
    due("'" + text + "'", lakeOf(x, text), -1 - place);
    due("count(1) behind '" + text + "'", x.count(1), 0);
    due("status(-1) behind '" + text + "'", x.status(-1), y.status(-1));
    y.wipe();
    sameLakes("'" + text + "'", x, y);
  }

  private static void faults() {
    says(TERMS, "FAULT: the place (from 0) of the first byte of the first TOKEN that can't stand there "
        + "(a NUMBER that may not be, another WORD, a byte that begins no TOKEN, the name of a KIND for a 9th THING, "
        + "boat for a 6th: its own), or how many bytes there are if it ends too early.");
    State busy = EdgeTest::busy;
    State crowded = EdgeTest::crowded;
    // a NUMBER that may not be
    fault(busy, "clear;wind 0;boat 48", 18);
    fault(busy, "clear;wind 0;thing at  8", 23);
    fault(busy, "moon at 1;moon at 1 high 7", 25);
    fault(busy, "moon at 1;boat 0 net 100", 21);
    fault(busy, "7", 0);
    fault(busy, "fog 7", 4);
    fault(busy, "moon 1", 5);
    // another WORD
    fault(busy, "rain", 0);
    fault(busy, "fog;rain", 4);
    fault(busy, "moon on 1", 5);
    fault(busy, "moon at light 1", 8);
    fault(busy, "moon at 1 net 1", 10);
    fault(busy, "boat at 1", 5);
    fault(busy, "boat 1 high 1", 7);
    fault(busy, "boat 1 net net", 11);
    fault(busy, "wind high 1", 5);
    fault(busy, "high 1", 0);
    fault(busy, "net 1", 0);
    fault(busy, "things at 1", 0);
    fault(busy, "fo", 0);
    fault(busy, "xog", 0);
    fault(busy, "fox", 0);
    fault(busy, "afog", 0);
    fault(busy, "foga", 0);
    fault(busy, "fogz", 0);
    fault(busy, "zfog", 0);
    // a SIGN that can't stand there
    fault(busy, "moon;", 4);
    fault(busy, "moon at;", 7);
    fault(busy, "moon at 1 high;", 14);
    fault(busy, "boat;fog", 4);
    fault(busy, "wind;fog", 4);
    fault(busy, "fog; ;fog", 5);
    // a byte that begins no TOKEN: those beside the letters, the digits, the sign and the blank, too
    for (char c : new char[] {0, 9, 10, 13, 31, 33, '-', '.', '/', ':', '<', '@', 'A', 'Z', '[', '`', '{', 127, 128, 255}) {
      fault(busy, "wind 0" + c, 6);
      fault(busy, "fog;" + c + "og", 4);
      fault(busy, "wind " + c + "1", 5);
    }
    fault(busy, "Fog", 0);
    fault(busy, "foG", 0);
    fault(busy, "moon at -1", 8);
    // too many
    fault(crowded, "moon at 1", 0);
    fault(crowded, "fog;  steeple", 6);
    fault(crowded, "clear;face at 99", 6);
    fault(crowded, "boat 1", 0);
    fault(crowded, "clear; boat", 7);
    fault(crowded, "clear;boat boat", 6);
    fault(busy, "moon at 1;moon at 1;moon at 1;moon at 1;moon at 1;moon at 1;thing at 1", 60);
    fault(busy, "boat 1;boat 2;boat 3;boat 4", 21);
    // it ends too early
    fault(busy, "", 0);
    fault(busy, " ", 1);
    fault(busy, " ".repeat(120), 120);
    fault(busy, "fog;", 4);
    fault(busy, "fog;  ", 6);
    fault(busy, "moon", 4);
    fault(busy, "moon at", 7);
    fault(busy, "moon at ", 8);
    fault(busy, "moon at 1 high", 14);
    fault(busy, "moon at 1 high 2 light", 22);
    fault(busy, "moon at 1 high 2 light 3 fee", 28);
    fault(busy, "boat", 4);
    fault(busy, "boat 1 net ", 11);
    fault(busy, "wind", 4);
    fault(busy, "calm   ", 7);
    // the first of several
    fault(busy, "rain;#", 0);
    fault(busy, "moon at 9 high 9", 8);
  }

  private static void onAndSheets() {
    says(TERMS, "ON: n HOURS go on with all as it is; nothing changes.");
    onlyAsks("on(0, 72, 1)", EdgeTest::busy, x -> x.on(0, 72, 1));
    GlintNets x = busy();
    int hold = x.on(1, 60, 0);
    int coins = x.on(1, 60, 1);
    x.hours(60);
    due("told(1, 2) as foretold", x.told(1, 2), hold);
    due("told(1, 3) as foretold", x.told(1, 3), coins);
    x = crowded();
    x.wind(1, 0);
    x.set(0, 3, 40);
    hold = x.told(0, 2);
    // Hours 9999 to 10001 have clocks 15 to 17: no sale.
    due("on(0, 3, 0) behind the last hour", x.on(0, 3, 0), hold + 30);
    due("now(0)", x.now(0), 9999);

    says(TERMS, "DARK: LIGHT is 0. WORTH of a BOAT: COINS and HOLD, together.");
    x = bare();
    put(x, 0, 0, 1, 1, 0);
    due("now(6), light 1", x.now(6), 0);
    due("dark(0), light 1, no boats", x.dark(0), NONE);
    x.set(0, 3, 0);
    due("now(6), light 0", x.now(6), 1);
    due("dark(0), light 0", x.dark(0), 0);
    // Whether what was taken has been sold or not: it is worth as much.
    x = at(19);
    put(x, 0, 0, 1, 40, 0);
    launch(x, 0, 10);
    launch(x, 0, 10);
    due("spot(0, 1), unsold", x.spot(0, 1), 0);
    due("net(0, 1), unsold", x.net(0, 1), 40);
    due("net(0, 2), sold", x.net(0, 2), 40);
    due("rival(0, 1, 2), enough for both", x.rival(0, 1, 2), 0);

    says(TERMS, "SHEETS 0 to 3 are rows of at most 40 numbers of 8, 16 or 64 bits, or MISSING (at first).");
    x = bare();
    for (int s = 0; s < 4; s++) {
      due("lays(" + s + ")", x.lays(s), MISSING);
    }
    due("lays(-1)", x.lays(-1), BEYOND);
    due("lays(4)", x.lays(4), BEYOND);
    due("sheet(0, 8, 40)", x.sheet(0, 8, 40), 40);
    due("sheet(1, 16, 40)", x.sheet(1, 16, 40), 40);
    due("sheet(2, 64, 40)", x.sheet(2, 64, 40), 40);
    due("sheet(3, 32, 40)", x.sheet(3, 32, 40), BEYOND);
    due("sheet(3, 64, 41)", x.sheet(3, 64, 41), BEYOND);
    due("lays(3), MISSING yet", x.lays(3), MISSING);
    for (int s = 0; s < 3; s++) {
      due("write(" + s + ", 39, 1)", x.write(s, 39, 1), 0);
      due("write(" + s + ", 40, 1)", x.write(s, 40, 1), BEYOND);
    }
  }

  // ---- promises

  private static void promises1To11() {
    says(1, "No THINGS, no BOATS; THE TAPE is empty, no image is kept.");
    GlintNets x = bare();
    GlintNets other = busy();
    for (int what = 0; what < 5; what++) {
      due("count(" + what + ")", x.count(what), 0);
    }
    due("of(0, 0)", x.of(0, 0), BEYOND);
    due("told(0, 0)", x.told(0, 0), BEYOND);
    due("wipe()", x.wipe(), 0);
    due("undo()", x.undo(), NONE);
    due("tear()", x.tear(), 0);
    due("count(0) of another one", other.count(0), 2);

    says(2, "RIPPLES (what 0; 0 to 255), FOG (1; 0, 1) become v: what they were. BEYOND.");
    x = bare();
    due("wind(0, 255)", x.wind(0, 255), 0);
    due("wind(0, 0)", x.wind(0, 0), 255);
    due("wind(0, 0)", x.wind(0, 0), 0);
    due("wind(1, 1)", x.wind(1, 1), 0);
    due("wind(1, 0)", x.wind(1, 0), 1);
    due("wind(1, 0)", x.wind(1, 0), 0);
    int[][] winds = {{0, -1}, {0, 256}, {0, LEAST}, {0, MOST}, {1, -1}, {1, 2}, {1, LEAST}, {1, MOST}, {-1, 0}, {2, 0},
        {LEAST, 0}, {MOST, 0}};
    for (int[] a : winds) {
      refused("wind" + Arrays.toString(a), EdgeTest::busy, y -> y.wind(a[0], a[1]), BEYOND);
    }

    says(3, "Of a CELL: what 0 GLINT, 1 THINGS mirrored there, as a set, 2 BOATS AT it, as a set, "
        + "3 what a boat that takes from it is TAXED. BEYOND.");
    for (int what = 0; what < 4; what++) {
      due("cell(0, " + what + ") of an empty lake", bare().cell(0, what), 0);
      due("cell(47, " + what + ") of an empty lake", bare().cell(47, what), 0);
      int w = what;
      onlyAsks("cell(3, " + what + ")", EdgeTest::busy, y -> y.cell(3, w));
    }
    x = bare();
    x.thing(1, 7, 6);
    x.boat(47);
    x.boat(7);
    int[] last = {6, 1, 1, 1};
    int[] beside = {0, 0, 0, 0};
    for (int what = 0; what < 4; what++) {
      due("cell(47, " + what + ")", x.cell(47, what), last[what]);
      due("cell(46, " + what + ")", x.cell(46, what), beside[what]);
    }
    due("cell(7, 2)", x.cell(7, 2), 2);
    // Nothing but the row and the hour parts a bride from a cell; a dark one is there, too.
    x = at(8);
    put(x, 2, 0, 1, 0, 3);
    due("cell(0, 1), a dark bride", x.cell(0, 1), 1);
    due("cell(0, 3), a dark bride", x.cell(0, 3), 5);
    due("cell(8, 1), a row too far", x.cell(8, 1), 0);
    due("cell(8, 3), a row too far", x.cell(8, 3), 0);
    pass(x, 10);
    due("cell(0, 1), an hour too late", x.cell(0, 1), 0);
    due("cell(0, 3), an hour too late", x.cell(0, 3), 0);
    int[][] cells = {{-1, 0}, {48, 0}, {LEAST, 0}, {MOST, 0}, {0, -1}, {0, 4}, {0, LEAST}, {0, MOST}};
    for (int[] a : cells) {
      refused("cell" + Arrays.toString(a), EdgeTest::busy, y -> y.cell(a[0], a[1]), BEYOND);
    }

    says(4, "A new THING at a column, of a HEIGHT: its number. BEYOND: kind, column, height. FULL.");
    x = bare();
    due("thing(0, 0, 1), the least of all", x.thing(0, 0, 1), 0);
    due("thing(5, 7, 6), the most of all", x.thing(5, 7, 6), 1);
    int[] most = {5, 7, 6, 40, 1};
    for (int what = 0; what < 5; what++) {
      due("of(1, " + what + ")", x.of(1, what), most[what]);
    }
    int[][] things = {{-1, 0, 1}, {6, 0, 1}, {LEAST, 0, 1}, {MOST, 0, 1}, {0, -1, 1}, {0, 8, 1}, {0, LEAST, 1},
        {0, MOST, 1}, {0, 0, 0}, {0, 0, 7}, {0, 0, LEAST}, {0, 0, MOST}};
    for (int[] a : things) {
      refused("thing" + Arrays.toString(a), EdgeTest::busy, y -> y.thing(a[0], a[1], a[2]), BEYOND);
      refused("thing" + Arrays.toString(a) + ", full", EdgeTest::crowded, y -> y.thing(a[0], a[1], a[2]), BEYOND);
    }
    refused("thing(0, 0, 1), a ninth", EdgeTest::crowded, y -> y.thing(0, 0, 1), FULL);

    says(5, "Of a THING: what 0 KIND, 1 column, 2 HEIGHT, 3 LIGHT, 4 FEE, 5 REACH, 6 TAXED, "
        + "7 SHINE of all its rows together. BEYOND.");
    x = crowded();
    int[] eighth = {0, 7, 1, 99, 1, 1, 1, 99};
    for (int what = 0; what < 8; what++) {
      due("of(7, " + what + "), the last", x.of(7, what), eighth[what]);
      int w = what;
      onlyAsks("of(1, " + what + ")", EdgeTest::busy, y -> y.of(1, w));
    }
    x = bare();
    put(x, 5, 0, 6, 99, 9);
    due("of(0, 5), no rows", x.of(0, 5), 0);
    due("of(0, 7), no rows", x.of(0, 7), 0);
    due("of(0, 6), taxed by night, too", x.of(0, 6), 22);
    int[][] asks = {{-1, 0}, {2, 0}, {8, 0}, {LEAST, 0}, {MOST, 0}, {0, -1}, {0, 8}, {0, LEAST}, {0, MOST}};
    for (int[] a : asks) {
      refused("of" + Arrays.toString(a), EdgeTest::busy, y -> y.of(a[0], a[1]), BEYOND);
    }
    refused("of(0, 0), none at all", EdgeTest::bare, y -> y.of(0, 0), BEYOND);
    refused("of(8, 0) of eight", EdgeTest::crowded, y -> y.of(8, 0), BEYOND);

    says(6, "Column (what 1), HEIGHT (2), LIGHT (3), FEE (4) of a THING becomes v: what it was. BEYOND.");
    x = crowded();
    due("set(7, 1, 0), the last", x.set(7, 1, 0), 7);
    due("set(7, 2, 6), the last", x.set(7, 2, 6), 1);
    due("set(7, 4, 9), the last", x.set(7, 4, 9), 1);
    due("of(6, 1), the one before it", x.of(6, 1), 6);
    int[][] sets = {{-1, 1, 1}, {2, 1, 1}, {LEAST, 1, 1}, {MOST, 1, 1}, {0, 0, 1}, {0, 5, 1}, {0, -1, 1}, {0, LEAST, 1},
        {0, MOST, 1}, {0, 1, -1}, {0, 1, 8}, {0, 1, LEAST}, {0, 1, MOST}, {0, 2, 0}, {0, 2, 7}, {0, 2, LEAST},
        {0, 2, MOST}, {0, 3, -1}, {0, 3, 100}, {0, 3, LEAST}, {0, 3, MOST}, {0, 4, -1}, {0, 4, 10}, {0, 4, LEAST},
        {0, 4, MOST}};
    for (int[] a : sets) {
      refused("set" + Arrays.toString(a), EdgeTest::busy, y -> y.set(a[0], a[1], a[2]), BEYOND);
    }
    refused("set(0, 1, 1), none at all", EdgeTest::bare, y -> y.set(0, 1, 1), BEYOND);

    says(7, "A THING becomes one of another KIND: what it was. BEYOND.");
    x = bare();
    put(x, 0, 3, 2, 7, 9);
    due("turn(0, 5)", x.turn(0, 5), 0);
    due("turn(0, 5), the same", x.turn(0, 5), 5);
    due("turn(0, 0)", x.turn(0, 0), 5);
    int[] stays = {0, 3, 2, 7, 9};
    for (int what = 0; what < 5; what++) {
      due("of(0, " + what + ")", x.of(0, what), stays[what]);
    }
    int[][] turns = {{-1, 0}, {2, 0}, {LEAST, 0}, {MOST, 0}, {0, -1}, {0, 6}, {0, LEAST}, {0, MOST}};
    for (int[] a : turns) {
      refused("turn" + Arrays.toString(a), EdgeTest::busy, y -> y.turn(a[0], a[1]), BEYOND);
      refused("as" + Arrays.toString(a), EdgeTest::busy, y -> y.as(a[0], a[1]), BEYOND);
    }
    refused("turn(0, 0), none at all", EdgeTest::bare, y -> y.turn(0, 0), BEYOND);

    says(8, "A THING as one of a kind: LIGHT. BEYOND: no such one, kind. "
        + "KIND: it isn't of that kind, nor of one under it.");
    // A steeple is a tower and a thing; a face is a bride and a thing.
    long[] steeple = {50, 50, KIND, KIND, 50, KIND};
    long[] face = {77, KIND, 77, KIND, KIND, 77};
    x = busy();
    x.set(0, 3, 50);
    for (int kind = 0; kind < 6; kind++) {
      due("as(0, " + kind + ")", x.as(0, kind), steeple[kind]);
      due("as(1, " + kind + ")", x.as(1, kind), face[kind]);
    }
    x.turn(0, 1);
    due("as(0, 4), a tower is no steeple", x.as(0, 4), KIND);
    x.turn(0, 0);
    due("as(0, 1), a thing is no tower", x.as(0, 1), KIND);
    x.set(0, 3, 0);
    due("as(0, 0), a dark one", x.as(0, 0), 0);
    refused("as(1, 1)", EdgeTest::busy, y -> y.as(1, 1), KIND);
    refused("as(2, 0), no such one", EdgeTest::busy, y -> y.as(2, 0), BEYOND);
    refused("as(-1, 0), no such one", EdgeTest::busy, y -> y.as(-1, 0), BEYOND);
    refused("as(0, 6), no such kind", EdgeTest::busy, y -> y.as(0, 6), BEYOND);
    refused("as(0, -1), no such kind", EdgeTest::busy, y -> y.as(0, -1), BEYOND);
    refused("as(0, 0), none at all", EdgeTest::bare, y -> y.as(0, 0), BEYOND);

    says(9, "A new BOAT AT a CELL: its number. BEYOND. FULL.");
    x = bare();
    due("boat(0)", x.boat(0), 0);
    due("boat(47)", x.boat(47), 1);
    due("told(1, 0)", x.told(1, 0), 47);
    for (int cell : new int[] {-1, 48, LEAST, MOST}) {
      refused("boat(" + cell + ")", EdgeTest::busy, y -> y.boat(cell), BEYOND);
      refused("boat(" + cell + "), full", EdgeTest::crowded, y -> y.boat(cell), BEYOND);
    }
    refused("boat(47), a sixth", EdgeTest::crowded, y -> y.boat(47), FULL);

    says(10, "Of a BOAT: what 0 AT, 1 NET, 2 HOLD, 3 COINS, 4 what it would TAKE now, if it were the first. BEYOND.");
    x = bare();
    put(x, 0, 0, 1, 1, 1);
    x.boat(0);
    x.boat(0);
    due("told(0, 4)", x.told(0, 4), 1);
    due("told(1, 4), if it were the first", x.told(1, 4), 1);
    x.fit(1, 1, 0);
    due("told(1, 4), net 0", x.told(1, 4), 0);
    x.wind(1, 1);
    due("told(0, 4) in fog", x.told(0, 4), 0);
    for (int what = 0; what < 5; what++) {
      int w = what;
      onlyAsks("told(1, " + what + ")", EdgeTest::busy, y -> y.told(1, w));
    }
    for (int[] a : asks) {
      if (a[1] != 8) {
        refused("told" + Arrays.toString(a), EdgeTest::busy, y -> y.told(a[0], a[1]), BEYOND);
      }
    }
    refused("told(0, 5)", EdgeTest::busy, y -> y.told(0, 5), BEYOND);
    refused("told(0, 0), none at all", EdgeTest::bare, y -> y.told(0, 0), BEYOND);
    refused("told(5, 0) of five", EdgeTest::crowded, y -> y.told(5, 0), BEYOND);

    says(11, "AT (what 0), NET (1) of a BOAT becomes v: what it was. BEYOND.");
    x = crowded();
    due("fit(4, 0, 47), the last", x.fit(4, 0, 47), 4);
    due("fit(4, 0, 0), the last", x.fit(4, 0, 0), 47);
    due("fit(4, 1, 99), the last", x.fit(4, 1, 99), 10);
    due("told(3, 1), the one before it", x.told(3, 1), 10);
    int[][] fits = {{-1, 0, 0}, {2, 0, 0}, {LEAST, 0, 0}, {MOST, 0, 0}, {0, -1, 0}, {0, 2, 0}, {0, 3, 0}, {0, LEAST, 0},
        {0, MOST, 0}, {0, 0, -1}, {0, 0, 48}, {0, 0, LEAST}, {0, 0, MOST}, {0, 1, -1}, {0, 1, 100}, {0, 1, LEAST},
        {0, 1, MOST}};
    for (int[] a : fits) {
      refused("fit" + Arrays.toString(a), EdgeTest::busy, y -> y.fit(a[0], a[1], a[2]), BEYOND);
    }
    refused("fit(0, 0, 0), none at all", EdgeTest::bare, y -> y.fit(0, 0, 0), BEYOND);
  }

  private static void promises12To17() {
    says(12, "n HOURS go (1 to 60): COINS of all BOATS together then. BEYOND. STATE: HOUR would be above 9999.");
    GlintNets x = bare();
    due("hours(1), no boats", x.hours(1), 0);
    due("hours(60), no boats", x.hours(60), 0);
    due("now(0)", x.now(0), 61);
    put(x, 0, 0, 1, 40, 2);
    put(x, 0, 1, 1, 40, 3);
    x.boat(0);
    x.boat(1);
    due("hours(1), of both boats", x.hours(1), -5);
    for (int n : new int[] {0, 61, -1, LEAST, MOST}) {
      refused("hours(" + n + ")", EdgeTest::busy, y -> y.hours(n), BEYOND);
      refused("hours(" + n + "), at the end", EdgeTest::crowded, y -> y.hours(n), BEYOND);
    }
    refused("hours(1), at the end", EdgeTest::crowded, y -> y.hours(1), STATE);
    refused("hours(60), at the end", EdgeTest::crowded, y -> y.hours(60), STATE);
    refused("hours(2), an hour too many", () -> at(9998), y -> y.hours(2), STATE);
    refused("hours(60), an hour too many", () -> at(9940), y -> y.hours(60), STATE);
    x = at(9998);
    due("hours(1), to the last hour", x.hours(1), 0);
    due("now(0)", x.now(0), 9999);
    x = at(9939);
    due("hours(60), to the last hour", x.hours(60), 0);
    due("now(0)", x.now(0), 9999);

    says(13, "What 0 HOUR, 1 THE CLOCK, 2 RIPPLES, 3 FOG, 4 LIGHT of all THINGS, 5 GLINTS of all CELLS, "
        + "6 THINGS that are DARK, as a set. BEYOND.");
    for (int what = 0; what < 7; what++) {
      due("now(" + what + ") of an empty lake", bare().now(what), 0);
      int w = what;
      onlyAsks("now(" + what + ")", EdgeTest::busy, y -> y.now(w));
    }
    x = bare();
    for (int i = 0; i < 8; i++) {
      put(x, 1, i, 6, 99, 1);
    }
    due("now(4), the most", x.now(4), 792);
    due("now(5), all cells", x.now(5), 8 * (99 + 49 + 33 + 24 + 19 + 16));
    x.wind(0, 128);
    due("now(5), a third of each of 6", x.now(5), 7 * 240 + 33 + 16 + 11 + 8 + 6 + 5);
    due("now(6)", x.now(6), 0);
    x.set(7, 3, 0);
    due("now(6), the last", x.now(6), 128);
    for (int what : new int[] {-1, 7, LEAST, MOST}) {
      refused("now(" + what + ")", EdgeTest::busy, y -> y.now(what), BEYOND);
    }

    says(14, "HOLD (what 0), COINS (1) of a BOAT ON n HOURS (0 to 72). BEYOND.");
    x = at(20);
    put(x, 0, 0, 1, 99, 1);
    x.boat(0);
    due("on(0, 0, 0)", x.on(0, 0, 0), 0);
    due("on(0, 0, 1)", x.on(0, 0, 1), 0);
    due("on(0, 1, 0), sold", x.on(0, 1, 0), 0);
    due("on(0, 1, 1), sold", x.on(0, 1, 1), 9);
    // Hours 20, 44 and 68 sell; the 24 between bring 240 less 24 each, and the last 23 of 72 are kept.
    due("on(0, 72, 0)", x.on(0, 72, 0), 230);
    due("on(0, 72, 1)", x.on(0, 72, 1), 10 + 240 + 240 - 72);
    int[][] ons = {{-1, 1, 0}, {2, 1, 0}, {LEAST, 1, 0}, {MOST, 1, 0}, {0, -1, 0}, {0, 73, 0}, {0, 73, 1}, {0, LEAST, 0},
        {0, MOST, 0}, {0, 1, -1}, {0, 1, 2}, {0, 1, LEAST}, {0, 1, MOST}};
    for (int[] a : ons) {
      refused("on" + Arrays.toString(a), EdgeTest::busy, y -> y.on(a[0], a[1], a[2]), BEYOND);
    }
    refused("on(0, 0, 0), none at all", EdgeTest::bare, y -> y.on(0, 0, 0), BEYOND);

    says(15, "LIGHT of a THING ON n HOURS (0 to 72). BEYOND.");
    x = bare();
    put(x, 0, 0, 1, 81, 1);
    put(x, 0, 1, 1, 40, 1);
    x.boat(1);
    due("light(0, 0)", x.light(0, 0), 81);
    due("light(0, 3)", x.light(0, 3), 81);
    due("light(0, 4)", x.light(0, 4), 82);
    due("light(0, 72)", x.light(0, 72), 99);
    x.set(0, 3, 82);
    due("light(0, 71), 17 fours", x.light(0, 71), 99);
    due("light(0, 72), 99 at most", x.light(0, 72), 99);
    // 3 less in 4 hours: 1 behind 52 of them, then 0 and 1 by turns.
    due("light(1, 52)", x.light(1, 52), 1);
    due("light(1, 53)", x.light(1, 53), 0);
    due("light(1, 71)", x.light(1, 71), 0);
    due("light(1, 72)", x.light(1, 72), 1);
    int[][] lights = {{-1, 1}, {2, 1}, {LEAST, 1}, {MOST, 1}, {0, -1}, {0, 73}, {0, LEAST}, {0, MOST}};
    for (int[] a : lights) {
      refused("light" + Arrays.toString(a), EdgeTest::busy, y -> y.light(a[0], a[1]), BEYOND);
    }
    onlyAsks("light(1, 72)", EdgeTest::busy, y -> y.light(1, 72));
    refused("light(0, 0), none at all", EdgeTest::bare, y -> y.light(0, 0), BEYOND);

    says(16, "In how many HOURS (0 to 72) ON HOLD of a BOAT is v (1 to 999) or more first. BEYOND. NONE.");
    x = almostFull();
    due("full(0, 1), so already", x.full(0, 1), 0);
    due("full(0, 998), so already", x.full(0, 998), 0);
    due("full(0, 999)", x.full(0, 999), 1);
    x = bare();
    put(x, 0, 0, 1, 99, 0);
    launch(x, 0, 10);
    due("full(0, 10)", x.full(0, 10), 1);
    due("full(0, 11)", x.full(0, 11), 2);
    due("full(0, 200), the first day", x.full(0, 200), 20);
    due("full(0, 201), a day on", x.full(0, 201), 21 + 21);
    due("full(0, 230), the hour before the sale", x.full(0, 230), 44);
    due("full(0, 231), sold before", x.full(0, 231), NONE);
    x.fit(0, 1, 0);
    due("full(0, 1), net 0", x.full(0, 1), NONE);
    // Under ripples the last row glints from light 18 on, and that comes in hour 71.
    State sparse = () -> {
      GlintNets y = bare();
      put(y, 0, 0, 6, 0, 0);
      y.wind(0, 1);
      y.boat(40);
      return y;
    };
    x = sparse.make();
    due("full(0, 1), in 73", x.full(0, 1), NONE);
    x.hours(1);
    due("full(0, 1), in 72", x.full(0, 1), 72);
    refused("full(0, 1), in 73", sparse, y -> y.full(0, 1), NONE);
    int[][] fulls = {{-1, 1}, {2, 1}, {LEAST, 1}, {MOST, 1}, {0, 0}, {0, 1000}, {0, -1}, {0, LEAST}, {0, MOST}};
    for (int[] a : fulls) {
      refused("full" + Arrays.toString(a), EdgeTest::busy, y -> y.full(a[0], a[1]), BEYOND);
    }
    onlyAsks("full(1, 999)", EdgeTest::busy, y -> y.full(1, 999));
    refused("full(0, 1), none at all", EdgeTest::bare, y -> y.full(0, 1), BEYOND);

    says(17, "In how many HOURS (0 to 72) ON a THING is DARK first. BEYOND. NONE.");
    State lone = () -> {
      GlintNets y = bare();
      put(y, 0, 0, 1, 55, 0);
      y.boat(0);
      return y;
    };
    x = lone.make();
    due("dark(0), light 55: 1 behind 72 hours", x.dark(0), NONE);
    x.set(0, 3, 54);
    due("dark(0), light 54: 0 behind 71", x.dark(0), 71);
    x.set(0, 3, 0);
    due("dark(0), so already", x.dark(0), 0);
    x.set(0, 3, 1);
    due("dark(0), light 1", x.dark(0), 1);
    x.hours(1);
    x.set(0, 3, 54);
    due("dark(0), in 72, begun at hour 1", x.dark(0), 72);
    x.hours(2);
    x.set(0, 3, 1);
    due("dark(0), light 1 at hour 3", x.dark(0), 2);
    refused("dark(0), in 73", lone, y -> y.dark(0), NONE);
    for (int thing : new int[] {-1, 2, LEAST, MOST}) {
      refused("dark(" + thing + ")", EdgeTest::busy, y -> y.dark(thing), BEYOND);
    }
    onlyAsks("dark(1)", EdgeTest::busy, y -> y.dark(1));
    refused("dark(0), none at all", EdgeTest::bare, y -> y.dark(0), BEYOND);
  }

  /** WORTH of a boat behind n hours, by on() alone. */
  private static int worth(GlintNets x, int boat, int n) {
    return x.on(boat, n, 0) + x.on(boat, n, 1);
  }

  /** Three things and three boats that are in one another's way, with fees that count. */
  private static GlintNets market(int hour) {
    GlintNets x = at(hour);
    put(x, 2, 2, 3, 12, 4);
    put(x, 4, 2, 4, 9, 2);
    put(x, 3, 5, 1, 30, 7);
    put(x, 1, 5, 2, 7, 1);
    launch(x, 2, 7);
    launch(x, 10, 5);
    launch(x, 5, 20);
    x.wind(0, 32);
    return x;
  }

  private static void promises18To25() {
    says(18, "The CELL with most GLINT; of several the least. NONE: it is 0 everywhere.");
    GlintNets x = bare();
    x.thing(0, 5, 1);
    x.thing(0, 3, 1);
    due("brightest(), of two the least", x.brightest(), 3);
    x.set(0, 3, 41);
    due("brightest()", x.brightest(), 5);
    x = bare();
    put(x, 4, 7, 6, 0, 1);
    due("brightest(), the last cell", x.brightest(), 47);
    x = bare();
    put(x, 0, 0, 1, 1, 1);
    due("brightest(), the first cell, with 1", x.brightest(), 0);
    onlyAsks("brightest()", EdgeTest::busy, y -> y.brightest());
    refused("brightest(), no things", EdgeTest::bare, y -> y.brightest(), NONE);
    refused("brightest(), in fog", EdgeTest::crowded, y -> y.brightest(), NONE);
    refused("brightest(), a third of 2", () -> {
      GlintNets y = bare();
      put(y, 0, 0, 1, 2, 1);
      y.wind(0, 1);
      return y;
    }, y -> y.brightest(), NONE);
    refused("brightest(), a dark thing", () -> {
      GlintNets y = bare();
      put(y, 0, 0, 6, 0, 1);
      return y;
    }, y -> y.brightest(), NONE);

    says(19, "The CELL by being AT which now a BOAT is WORTH most ON n HOURS (1 to 24); of several the least. BEYOND.");
    x = bare();
    x.boat(30);
    due("spot(0, 1), nothing anywhere", x.spot(0, 1), 0);
    due("spot(0, 24), nothing anywhere", x.spot(0, 24), 0);
    put(x, 4, 7, 6, 0, 0);
    due("spot(0, 1), the last cell", x.spot(0, 1), 47);
    x.set(0, 4, 9);
    due("spot(0, 1), no loss is best", x.spot(0, 1), 0);
    x = bare();
    for (int column = 0; column < 8; column++) {
      put(x, 1, column, 6, 99, column == 5 ? 8 : 9);
    }
    launch(x, 47, 1);
    due("spot(0, 1), a loss at every cell", x.spot(0, 1), 5);
    for (int hour : new int[] {0, 8, 17}) {
      for (int n : new int[] {1, 2, 24}) {
        x = market(hour);
        int found = x.spot(1, n);
        int best = 0;
        int most = LEAST;
        for (int cell = 0; cell < 48; cell++) {
          x.fit(1, 0, cell);
          int worth = worth(x, 1, n);
          if (worth > most) {
            most = worth;
            best = cell;
          }
        }
        due("spot(1, " + n + ") at hour " + hour, found, best);
      }
    }
    onlyAsks("spot(1, 24)", EdgeTest::busy, y -> y.spot(1, 24));

    says(20, "The HOUR of 0 to 23 at which GLINT of a CELL, with all else as it is, is most; of several the least. BEYOND.");
    x = at(31);
    due("time(0), nothing there", x.time(0), 0);
    put(x, 2, 0, 1, 2, 1);
    put(x, 3, 1, 1, 40, 1);
    put(x, 4, 7, 6, 0, 1);
    due("time(0), a bride", x.time(0), 8);
    due("time(8), a row too far", x.time(8), 0);
    due("time(1), a moon", x.time(1), 0);
    due("time(47), a steeple at an odd hour", x.time(47), 0);
    x.wind(0, 1);
    due("time(0), with ripples a third of 4", x.time(0), 8);
    x.set(0, 3, 1);
    due("time(0), with ripples a third of 2", x.time(0), 0);
    x.wind(0, 0);
    due("time(0), light 1", x.time(0), 8);
    x.wind(1, 1);
    due("time(0), in fog", x.time(0), 0);
    for (int cell : new int[] {-1, 48, LEAST, MOST}) {
      refused("time(" + cell + ")", EdgeTest::busy, y -> y.time(cell), BEYOND);
    }
    onlyAsks("time(0)", EdgeTest::busy, y -> y.time(0));

    says(21, "The least NET (0 to 99) with which a BOAT is WORTH most ON n HOURS (1 to 24). BEYOND.");
    x = bare();
    x.boat(0);
    due("net(0, 24), nothing there", x.net(0, 24), 0);
    put(x, 0, 0, 1, 99, 9);
    put(x, 0, 0, 1, 99, 9);
    due("net(0, 1), the largest", x.net(0, 1), 99);
    x.set(0, 3, 0);
    x.set(1, 3, 19);
    due("net(0, 1), a gain of 1", x.net(0, 1), 19);
    x.set(1, 3, 18);
    due("net(0, 1), no gain", x.net(0, 1), 0);
    x = almostFull();
    x.fit(0, 1, 0);
    x.set(0, 4, 0);
    x.set(1, 4, 0);
    due("net(0, 1), 1 may come", x.net(0, 1), 1);
    x.set(0, 4, 1);
    due("net(0, 1), 1 may come, for 1", x.net(0, 1), 0);
    for (int hour : new int[] {0, 18}) {
      for (int n : new int[] {1, 24}) {
        x = market(hour);
        int found = x.net(0, n);
        int best = 0;
        int most = LEAST;
        for (int net = 0; net < 100; net++) {
          x.fit(0, 1, net);
          int worth = worth(x, 0, n);
          if (worth > most) {
            most = worth;
            best = net;
          }
        }
        due("net(0, " + n + ") at hour " + hour, found, best);
      }
    }
    onlyAsks("net(1, 24)", EdgeTest::busy, y -> y.net(1, 24));

    says(22, "The THING without whose LIGHT (0 now) a BOAT is WORTH least ON n HOURS (1 to 24), less than as it is; "
        + "of several the least. BEYOND. NONE.");
    x = bare();
    launch(x, 0, 99);
    put(x, 0, 1, 1, 99, 0);
    put(x, 0, 0, 1, 20, 0);
    put(x, 0, 0, 1, 20, 0);
    due("gives(0, 1), of two the least", x.gives(0, 1), 1);
    x.set(2, 3, 21);
    due("gives(0, 1)", x.gives(0, 1), 2);
    x.fit(0, 1, 20);
    due("gives(0, 1), less by nothing or by nothing", x.gives(0, 1), NONE);
    x.fit(0, 1, 21);
    due("gives(0, 1), 20 without the last", x.gives(0, 1), 2);
    for (int n : new int[] {1, 5, 24}) {
      x = market(8);
      int found = x.gives(0, n);
      int asItIs = worth(x, 0, n);
      long giver = NONE;
      int least = asItIs;
      for (int thing = 0; thing < 4; thing++) {
        int light = x.set(thing, 3, 0);
        int worth = worth(x, 0, n);
        x.set(thing, 3, light);
        if (worth < least) {
          least = worth;
          giver = thing;
        }
      }
      due("gives(0, " + n + ")", found, giver);
    }
    refused("gives(0, 1), no things", () -> {
      GlintNets y = bare();
      y.boat(0);
      return y;
    }, y -> y.gives(0, 1), NONE);
    refused("gives(0, 1), worth more without it", () -> {
      GlintNets y = bare();
      put(y, 0, 0, 1, 8, 9);
      y.boat(0);
      return y;
    }, y -> y.gives(0, 1), NONE);
    refused("gives(0, 1), worth as much without it", () -> {
      GlintNets y = bare();
      put(y, 0, 0, 1, 9, 9);
      y.boat(0);
      return y;
    }, y -> y.gives(0, 1), NONE);
    refused("gives(0, 24), in fog", EdgeTest::crowded, y -> y.gives(0, 24), NONE);
    onlyAsks("gives(1, 24)", EdgeTest::busy, y -> y.gives(1, 24));

    says(23, "The KIND as one of which a THING lets all BOATS together be WORTH most ON n HOURS (1 to 24); "
        + "of several the least. BEYOND.");
    x = bare();
    x.thing(5, 0, 1);
    due("kind(0, 24), no boats", x.kind(0, 24), 0);
    launch(x, 0, 99);
    due("kind(0, 1), thing, tower and steeple alike", x.kind(0, 1), 0);
    x.fit(0, 0, 8);
    due("kind(0, 1), a row on", x.kind(0, 1), 4);
    x = at(8);
    put(x, 0, 0, 1, 40, 0);
    launch(x, 0, 99);
    due("kind(0, 1), a face by day", x.kind(0, 1), 5);
    x.set(0, 4, 1);
    due("kind(0, 1), bride and face alike", x.kind(0, 1), 2);
    // A steeple brings the second boat most; a moon, which nobody pays for, brings both together more.
    x = bare();
    put(x, 0, 0, 1, 40, 9);
    launch(x, 0, 8);
    launch(x, 8, 99);
    due("kind(0, 1), for both boats", x.kind(0, 1), 3);
    for (int n : new int[] {1, 7, 24}) {
      x = market(8);
      int found = x.kind(3, n);
      int best = 0;
      int most = LEAST;
      for (int kind = 0; kind < 6; kind++) {
        x.turn(3, kind);
        int worth = worth(x, 0, n) + worth(x, 1, n) + worth(x, 2, n);
        if (worth > most) {
          most = worth;
          best = kind;
        }
      }
      due("kind(3, " + n + ")", found, best);
    }
    onlyAsks("kind(1, 24)", EdgeTest::busy, y -> y.kind(1, 24));

    says(24, "By how much a BOAT is WORTH more (below 0: less) ON n HOURS (1 to 24), were another one's NET 0. "
        + "BEYOND: also one and the same.");
    x = bare();
    put(x, 0, 0, 6, 2, 9);
    launch(x, 0, 99);
    launch(x, 8, 99);
    launch(x, 7, 99);
    due("rival(1, 0, 1), less", x.rival(1, 0, 1), -8);
    due("rival(1, 2, 1), neither", x.rival(1, 2, 1), 0);
    x.set(0, 3, 40);
    due("rival(1, 0, 1), more", x.rival(1, 0, 1), 1);
    due("rival(0, 1, 1), the first one", x.rival(0, 1, 1), 0);
    for (int n : new int[] {1, 3, 24}) {
      x = market(8);
      int found = x.rival(0, 1, n);
      int asItIs = worth(x, 0, n);
      x.fit(1, 1, 0);
      due("rival(0, 1, " + n + ")", found, worth(x, 0, n) - asItIs);
    }
    onlyAsks("rival(1, 0, 24)", EdgeTest::busy, y -> y.rival(1, 0, 24));
    int[][] rivals = {{0, 0, 1}, {1, 1, 1}, {-1, 0, 1}, {2, 0, 1}, {LEAST, 0, 1}, {MOST, 0, 1}, {0, -1, 1}, {0, 2, 1},
        {0, LEAST, 1}, {0, MOST, 1}, {-1, -1, 1}, {0, 1, 0}, {0, 1, 25}, {0, 1, -1}, {0, 1, LEAST}, {0, 1, MOST}};
    for (int[] a : rivals) {
      refused("rival" + Arrays.toString(a), EdgeTest::busy, y -> y.rival(a[0], a[1], a[2]), BEYOND);
    }

    int[][] weighed = {{-1, 1}, {2, 1}, {LEAST, 1}, {MOST, 1}, {0, 0}, {0, 25}, {0, -1}, {0, LEAST}, {0, MOST}};
    for (int[] a : weighed) {
      String with = Arrays.toString(a);
      says(19, "ON n HOURS (1 to 24); of several the least. BEYOND.");
      refused("spot" + with, EdgeTest::busy, y -> y.spot(a[0], a[1]), BEYOND);
      says(21, "ON n HOURS (1 to 24). BEYOND.");
      refused("net" + with, EdgeTest::busy, y -> y.net(a[0], a[1]), BEYOND);
      says(22, "ON n HOURS (1 to 24), less than as it is; of several the least. BEYOND.");
      refused("gives" + with, EdgeTest::busy, y -> y.gives(a[0], a[1]), BEYOND);
      says(23, "ON n HOURS (1 to 24); of several the least. BEYOND.");
      refused("kind" + with, EdgeTest::busy, y -> y.kind(a[0], a[1]), BEYOND);
    }
    says(19, "BEYOND.");
    refused("spot(0, 1), none at all", EdgeTest::bare, y -> y.spot(0, 1), BEYOND);
    says(21, "BEYOND.");
    refused("net(0, 1), none at all", EdgeTest::bare, y -> y.net(0, 1), BEYOND);
    says(22, "BEYOND.");
    refused("gives(0, 1), none at all", EdgeTest::bare, y -> y.gives(0, 1), BEYOND);
    says(23, "BEYOND.");
    refused("kind(0, 1), none at all", EdgeTest::bare, y -> y.kind(0, 1), BEYOND);
    says(24, "BEYOND");
    refused("rival(0, 1, 1), none at all", EdgeTest::bare, y -> y.rival(0, 1, 1), BEYOND);

    says(25, "The fewest steps from a CELL to another one, each to a CELL BESIDE, "
        + "over columns without RIPPLES alone (both, too). BEYOND. NONE.");
    x = bare();
    for (int from = 0; from < 48; from += 47) {
      for (int to = 0; to < 48; to++) {
        due("way(" + from + ", " + to + ")", x.way(from, to),
            Math.abs(from % 8 - to % 8) + Math.abs(from / 8 - to / 8));
      }
    }
    due("way(20, 20), nowhere", x.way(20, 20), 0);
    State rippled = () -> {
      GlintNets y = busy();
      y.wind(0, 16);
      return y;
    };
    x = rippled.make();
    due("way(0, 43), up to the ripples", x.way(0, 43), 8);
    due("way(5, 47), behind them", x.way(5, 47), 7);
    int[][] none = {{3, 5}, {5, 3}, {0, 47}, {0, 4}, {4, 0}, {4, 4}, {4, 12}, {44, 4}};
    for (int[] a : none) {
      refused("way" + Arrays.toString(a), rippled, y -> y.way(a[0], a[1]), NONE);
    }
    x.wind(0, 255);
    due("way(0, 0), ripples everywhere", x.way(0, 0), NONE);
    int[][] ways = {{-1, 0}, {48, 0}, {LEAST, 0}, {MOST, 0}, {0, -1}, {0, 48}, {0, LEAST}, {0, MOST}, {4, 48}};
    for (int[] a : ways) {
      refused("way" + Arrays.toString(a), rippled, y -> y.way(a[0], a[1]), BEYOND);
    }
    onlyAsks("way(2, 45)", EdgeTest::busy, y -> y.way(2, 45));
  }

  private static void promises26To28() {
    says(26, "THE TAPE gets the n lowest bytes of a number behind it, the highest of these first (n 1 to 4): "
        + "how many it has. BEYOND: n. FULL.");
    GlintNets x = bare();
    due("feed('xxxf', 1)", x.feed(0x78787866, 1), 1);
    due("feed('xxog', 2)", x.feed(0x78786f67, 2), 3);
    due("feed('x;wi', 3)", x.feed(0x783b7769, 3), 6);
    due("feed('nd 7', 4)", x.feed(0x6e642037, 4), 10);
    due("lake()", x.lake(), 2);
    due("now(2)", x.now(2), 128);
    due("now(3)", x.now(3), 1);
    due("feed(-1, 4), bytes of 255", x.feed(-1, 4), 4);
    due("lake()", x.lake(), -1);
    for (int n : new int[] {0, 5, -1, LEAST, MOST}) {
      refused("feed(0, " + n + ")", EdgeTest::busy, y -> y.feed(0, n), BEYOND);
      refused("feed(0, " + n + "), full", EdgeTest::crowded, y -> y.feed(0, n), BEYOND);
    }
    refused("feed(0, 1), full", EdgeTest::crowded, y -> y.feed(0, 1), FULL);
    State almost = () -> {
      GlintNets y = bare();
      tell(y, "fog;".repeat(29) + "wi");
      return y;
    };
    refused("feed(0, 3), one too many", almost, y -> y.feed(0, 3), FULL);
    refused("feed(0, 4), two too many", almost, y -> y.feed(0, 4), FULL);
    x = almost.make();
    due("feed(0, 2), just full", x.feed(0, 2), 120);
    x = almost.make();
    due("feed(0, 1)", x.feed(0, 1), 119);
    due("feed(0, 2)", x.feed(0, 2), FULL);
    due("feed(0, 1), just full", x.feed(0, 1), 120);
    due("feed(0, 1)", x.feed(0, 1), FULL);

    says(27, "THE TAPE is empty: how many it had.");
    x = crowded();
    due("wipe(), a full one", x.wipe(), 120);
    due("wipe(), an empty one", x.wipe(), 0);
    due("count(1)", x.count(1), 0);
    due("feed(0, 4), room again", x.feed(0, 4), 4);
    due("lake(), the old bytes are gone", x.lake(), -1);
    x = bare();
    tell(x, "fog;clear;fog");
    x.wipe();
    tell(x, "wind 1");
    due("lake(), the old bytes are gone", x.lake(), 1);

    says(28, "THE TAPE is THE TEXT of a LAKE, whose ITEMS come to what there is, and empty then: how many ITEMS. "
        + "With a FAULT: -1 less its place (nothing changes but that THE TAPE is empty; no finding).");
    x = busy();
    x.wipe();
    due("things and boats behind those there are", lakeOf(x, "moon at 5;boat 9;wind 0"), 3);
    due("count(0)", x.count(0), 3);
    due("count(2)", x.count(2), 3);
    due("count(1)", x.count(1), 0);
    due("of(2, 0)", x.of(2, 0), 3);
    due("of(0, 0), as it was", x.of(0, 0), 4);
    due("told(2, 0)", x.told(2, 0), 9);
    due("told(0, 1), as it was", x.told(0, 1), 30);
    due("now(2)", x.now(2), 67);
    due("now(0)", x.now(0), 9);
    due("an empty tape", x.lake(), -1);
    x = bare();
    due("to the eighth thing", lakeOf(x, "moon at 1;moon at 2;moon at 3;moon at 4;moon at 5;moon at 6;moon at 7;moon at 0"), 8);
    due("to the fifth boat", lakeOf(x, "boat 0;boat 1;boat 2;boat 3;boat 4"), 5);
    due("of(7, 1)", x.of(7, 1), 0);
    due("told(4, 0)", x.told(4, 0), 4);
    due("the last item has the fault", lakeOf(x, "fog;wind 3;calm"), -16);
    due("now(3), nothing came", x.now(3), 0);
    due("now(2), nothing came", x.now(2), 0);
    due("count(1)", x.count(1), 0);
    due("status(-1), no finding", x.status(-1), 0);
  }

  private static void promises29To34() {
    State busy = EdgeTest::busy;
    says(29, "A sheet has n numbers, all 0, of 8, 16 or 64 bits; bits 0: it is MISSING: n (0 if it is MISSING). "
        + "BEYOND: no such sheet, other bits. SIZE: n is below 0 (also with bits 0). "
        + "BEYOND: n is above 40 (also with bits 0).");
    GlintNets x = bare();
    for (int s = 0; s < 4; s++) {
      due("sheet(" + s + ", 8, 40)", x.sheet(s, 8, 40), 40);
      due("write(" + s + ", 39, 7)", x.write(s, 39, 7), 0);
      due("sheet(" + s + ", 64, 40), all 0 again", x.sheet(s, 64, 40), 40);
      due("write(" + s + ", 39, 7)", x.write(s, 39, 7), 0);
      due("sheet(" + s + ", 16, 1)", x.sheet(s, 16, 1), 1);
      due("write(" + s + ", 1, 7)", x.write(s, 1, 7), BEYOND);
      due("sheet(" + s + ", 8, 0)", x.sheet(s, 8, 0), 0);
      due("lays(" + s + "), not MISSING", x.lays(s), 0);
      due("write(" + s + ", 0, 7)", x.write(s, 0, 7), BEYOND);
      due("sheet(" + s + ", 0, 40), MISSING", x.sheet(s, 0, 40), 0);
      due("lays(" + s + ")", x.lays(s), MISSING);
      due("sheet(" + s + ", 0, 0), MISSING already", x.sheet(s, 0, 0), 0);
    }
    for (int s : new int[] {-1, 4, LEAST, MOST}) {
      refused("sheet(" + s + ", 8, 1)", busy, y -> y.sheet(s, 8, 1), BEYOND);
      refused("sheet(" + s + ", 8, -1)", busy, y -> y.sheet(s, 8, -1), BEYOND);
    }
    for (int bits : new int[] {-8, -1, 1, 7, 9, 15, 17, 32, 63, 65, 128, LEAST, MOST}) {
      refused("sheet(0, " + bits + ", 1)", busy, y -> y.sheet(0, bits, 1), BEYOND);
      refused("sheet(0, " + bits + ", -1)", busy, y -> y.sheet(0, bits, -1), BEYOND);
    }
    for (int bits : new int[] {0, 8, 16, 64}) {
      for (int n : new int[] {-1, LEAST}) {
        refused("sheet(0, " + bits + ", " + n + ")", busy, y -> y.sheet(0, bits, n), SIZE);
      }
      for (int n : new int[] {41, MOST}) {
        refused("sheet(0, " + bits + ", " + n + ")", busy, y -> y.sheet(0, bits, n), BEYOND);
      }
    }

    says(30, "Number i of a sheet becomes v (its lowest bits): what it was. BEYOND: no such sheet. MISSING. "
        + "BEYOND: no such number.");
    x = bare();
    x.sheet(0, 8, 1);
    x.sheet(1, 16, 1);
    x.sheet(2, 64, 1);
    long[][] cut = {{127, 127, 127}, {128, -128, 128}, {255, -1, 255}, {256, 0, 256}, {-128, -128, -128},
        {-129, 127, -129}, {32767, -1, 32767}, {32768, 0, -32768}, {65535, -1, -1}, {65536, 0, 0}, {-32769, -1, 32767},
        {Long.MAX_VALUE, -1, -1}, {Long.MIN_VALUE, 0, 0}, {1L << 32, 0, 0}, {BEYOND, -1, 0}};
    cut[14][1] = (byte) BEYOND;
    cut[14][2] = (short) BEYOND;
    for (long[] c : cut) {
      x.write(0, 0, c[0]);
      x.write(1, 0, c[0]);
      x.write(2, 0, c[0]);
      due("write(0, 0, 0) behind " + c[0], x.write(0, 0, 0), c[1]);
      due("write(1, 0, 0) behind " + c[0], x.write(1, 0, 0), c[2]);
      if (c[0] != BEYOND) {
        due("write(2, 0, 0) behind " + c[0], x.write(2, 0, 0), c[0]);
      }
    }
    due("status(-1)", x.status(-1), 0);
    for (int s : new int[] {-1, 4, LEAST, MOST}) {
      refused("write(" + s + ", 0, 1)", busy, y -> y.write(s, 0, 1), BEYOND);
    }
    for (int i : new int[] {-1, 3, 40, LEAST, MOST}) {
      refused("write(0, " + i + ", 1)", busy, y -> y.write(0, i, 1), BEYOND);
      refused("write(3, " + i + ", 1)", busy, y -> y.write(3, i, 1), MISSING);
    }
    refused("write(2, 0, 1), no numbers", busy, y -> y.write(2, 0, 1), BEYOND);
    copies();
    laysBookRead();
  }

  /** A sheet's numbers told by writing 0 to each. */
  private static void numbers(GlintNets x, int s, long... want) {
    for (int i = 0; i < want.length; i++) {
      due("number " + i + " of sheet " + s, x.write(s, i, 0), want[i]);
    }
  }

  /** Sheets 0 and 1 with 1 to 5 and 6 to 8, of 16 bits; sheet 2 of 8 bits; sheet 3 MISSING. */
  private static GlintNets sheets() {
    GlintNets x = bare();
    x.sheet(0, 16, 5);
    x.sheet(1, 16, 3);
    x.sheet(2, 8, 5);
    for (int i = 0; i < 5; i++) {
      x.write(0, i, i + 1);
    }
    for (int i = 0; i < 3; i++) {
      x.write(1, i, i + 6);
    }
    return x;
  }

  private static void copies() {
    State state = EdgeTest::sheets;
    says(31, "n numbers of a sheet from one on come to another one from one on (as they all were): n. "
        + "BEYOND: no such sheet (either). MISSING: one is. KIND: they are not of as many bits. "
        + "BEYOND: one has not so many, or from, to or n is below 0.");
    GlintNets x = sheets();
    due("copy(0, 2, 1, 0, 3), all of it", x.copy(0, 2, 1, 0, 3), 3);
    numbers(x, 1, 3, 4, 5);
    numbers(x, 0, 1, 2, 3, 4, 5);
    x = sheets();
    due("copy(0, 0, 0, 1, 4), forth on itself", x.copy(0, 0, 0, 1, 4), 4);
    numbers(x, 0, 1, 1, 2, 3, 4);
    x = sheets();
    due("copy(0, 1, 0, 0, 4), back on itself", x.copy(0, 1, 0, 0, 4), 4);
    numbers(x, 0, 2, 3, 4, 5, 5);
    x = sheets();
    due("copy(0, 0, 0, 0, 5), onto itself", x.copy(0, 0, 0, 0, 5), 5);
    due("copy(0, 0, 1, 0, 0), none", x.copy(0, 0, 1, 0, 0), 0);
    due("copy(0, 5, 1, 3, 0), none from the end to the end", x.copy(0, 5, 1, 3, 0), 0);
    numbers(x, 1, 6, 7, 8);
    numbers(x, 0, 1, 2, 3, 4, 5);
    x = bare();
    x.sheet(0, 64, 0);
    due("copy(0, 0, 0, 0, 0), no numbers", x.copy(0, 0, 0, 0, 0), 0);
    x = bare();
    x.sheet(0, 64, 40);
    x.sheet(3, 64, 40);
    x.write(0, 39, Long.MIN_VALUE);
    due("copy(0, 0, 3, 0, 40), the most", x.copy(0, 0, 3, 0, 40), 40);
    due("write(3, 39, 0)", x.write(3, 39, 0), Long.MIN_VALUE);
    for (int s : new int[] {-1, 4, LEAST, MOST}) {
      refused("copy(" + s + ", 0, 0, 0, 1)", state, y -> y.copy(s, 0, 0, 0, 1), BEYOND);
      refused("copy(0, 0, " + s + ", 0, 1)", state, y -> y.copy(0, 0, s, 0, 1), BEYOND);
      refused("copy(" + s + ", 0, 3, 0, 1)", state, y -> y.copy(s, 0, 3, 0, 1), BEYOND);
      refused("copy(3, 0, " + s + ", 0, 1)", state, y -> y.copy(3, 0, s, 0, 1), BEYOND);
    }
    refused("copy(3, 0, 0, 0, 0)", state, y -> y.copy(3, 0, 0, 0, 0), MISSING);
    refused("copy(0, 0, 3, 0, 0)", state, y -> y.copy(0, 0, 3, 0, 0), MISSING);
    refused("copy(3, 0, 3, 0, 0)", state, y -> y.copy(3, 0, 3, 0, 0), MISSING);
    refused("copy(3, -1, 0, -1, -1)", state, y -> y.copy(3, -1, 0, -1, -1), MISSING);
    refused("copy(0, 0, 2, 0, 0)", state, y -> y.copy(0, 0, 2, 0, 0), KIND);
    refused("copy(2, 0, 0, 0, 1)", state, y -> y.copy(2, 0, 0, 0, 1), KIND);
    refused("copy(2, -1, 0, -1, -1)", state, y -> y.copy(2, -1, 0, -1, -1), KIND);
    int[][] beyond = {{0, 0, 1, 0, 4}, {1, 0, 0, 0, 4}, {0, 3, 1, 0, 3}, {0, 0, 1, 1, 3}, {0, 5, 1, 0, 1}, {0, 0, 1, 3, 1},
        {0, -1, 1, 0, 1}, {0, 0, 1, -1, 1}, {0, 0, 1, 0, -1}, {0, -1, 1, 0, 0}, {0, 0, 1, -1, 0}, {0, 6, 1, 0, 0},
        {0, 0, 1, 4, 0}, {0, MOST, 1, 0, 1}, {0, 0, 1, MOST, 1}, {0, 0, 1, 0, MOST}, {0, MOST, 1, MOST, MOST},
        {0, LEAST, 1, 0, 1}, {0, 0, 1, LEAST, 1}, {0, 0, 1, 0, LEAST}, {0, LEAST, 1, LEAST, LEAST}, {0, 1, 1, 1, MOST},
        {0, 0, 0, 1, 5}, {0, 1, 0, 0, 5}};
    for (int[] a : beyond) {
      refused("copy" + Arrays.toString(a), state, y -> y.copy(a[0], a[1], a[2], a[3], a[4]), BEYOND);
    }
  }

  private static void laysBookRead() {
    State busy = EdgeTest::busy;
    says(32, "Numbers of a sheet become LIGHT of THINGS 0, 1, .. (those that aren't 0 to 99, or stand for none, "
        + "are left out): how many came. BEYOND: no such sheet. MISSING.");
    GlintNets x = bare();
    for (int i = 0; i < 6; i++) {
      x.thing(0, 0, 1);
    }
    x.sheet(0, 64, 8);
    long[] lights = {0, -1, 99, 100, 1L << 32, Long.MIN_VALUE, 5, 6};
    for (int i = 0; i < 8; i++) {
      x.write(0, i, lights[i]);
    }
    due("lays(0), 0 and 99 come", x.lays(0), 2);
    int[] want = {0, 40, 99, 40, 40, 40};
    for (int i = 0; i < 6; i++) {
      due("of(" + i + ", 3)", x.of(i, 3), want[i]);
    }
    x.sheet(1, 8, 1);
    x.write(1, 0, 256 + 7);
    due("lays(1), one number", x.lays(1), 1);
    due("of(0, 3)", x.of(0, 3), 7);
    due("of(2, 3), no number for it", x.of(2, 3), 99);
    x.sheet(2, 16, 0);
    due("lays(2), no numbers", x.lays(2), 0);
    x = bare();
    x.sheet(0, 16, 40);
    due("lays(0), no things", x.lays(0), 0);
    x = crowded();
    x.sheet(0, 16, 40);
    due("lays(0), 40 numbers, 8 things", x.lays(0), 8);
    due("now(4)", x.now(4), 0);
    for (int s : new int[] {-1, 4, LEAST, MOST}) {
      refused("lays(" + s + ")", busy, y -> y.lays(s), BEYOND);
    }
    refused("lays(3)", busy, y -> y.lays(3), MISSING);

    says(33, "A book: HOLD of a BOAT ON 0, 1, 2, .. HOURS comes to a sheet, as many as it has numbers: how many. "
        + "BEYOND: no such sheet. MISSING. BEYOND: boat.");
    x = market(0);
    x.sheet(0, 64, 40);
    x.sheet(1, 8, 1);
    due("book(0, 1)", x.book(0, 1), 40);
    for (int n = 0; n < 40; n++) {
      due("write(0, " + n + ", 0)", x.write(0, n, 0), x.on(1, n, 0));
    }
    due("book(1, 1), one number", x.book(1, 1), 1);
    x.sheet(1, 8, 0);
    due("book(1, 1), no numbers", x.book(1, 1), 0);
    due("now(0)", x.now(0), 0);
    x = almostFull();
    x.sheet(0, 8, 2);
    x.sheet(1, 16, 2);
    due("book(0, 0)", x.book(0, 0), 2);
    due("book(1, 0)", x.book(1, 0), 2);
    numbers(x, 0, 998 - 1024, 999 - 1024);
    numbers(x, 1, 998, 999);
    onlyAsks("book(2, 0), no numbers", busy, y -> y.book(2, 0));
    says(34, "numbers of a sheet are HOLD of a BOAT ON 0, 1, 2, .. HOURS: how many CELLS that it is AT now make it just so. "
        + "BEYOND: no such sheet. MISSING. BEYOND: boat.");
    x = bare();
    x.boat(0);
    x.sheet(0, 16, 40);
    due("read(0, 0), nothing anywhere", x.read(0, 0), 48);
    put(x, 0, 7, 2, 40, 0);
    due("read(0, 0), nothing but at two", x.read(0, 0), 46);
    x.sheet(1, 16, 0);
    due("read(1, 0), no numbers", x.read(1, 0), 48);
    x.sheet(1, 16, 1);
    due("read(1, 0), what it holds now", x.read(1, 0), 48);
    x.write(1, 0, 1);
    due("read(1, 0), not what it holds now", x.read(1, 0), 0);
    x.sheet(1, 16, 2);
    x.write(1, 1, 10);
    due("read(1, 0), 10 in an hour", x.read(1, 0), 2);
    x.fit(0, 1, 99);
    x.write(1, 1, 20);
    due("read(1, 0), 20 in an hour", x.read(1, 0), 1);
    x.write(1, 1, 21);
    due("read(1, 0), 21 in an hour", x.read(1, 0), 0);
    due("told(0, 0)", x.told(0, 0), 0);
    // The last of 40 numbers counts as the others do.
    x.fit(0, 0, 7);
    x.book(0, 0);
    due("read(0, 0), what was booked", x.read(0, 0), 1);
    long last = x.write(0, 39, 0);
    x.write(0, 39, last + 1);
    due("read(0, 0), all but the last", x.read(0, 0), 0);
    // HOLD is compared whole: its lowest bits aren't it.
    x = almostFull();
    x.sheet(0, 8, 1);
    x.sheet(1, 16, 1);
    x.book(0, 0);
    x.book(1, 0);
    due("read(0, 0), 998 doesn't fit", x.read(0, 0), 0);
    due("read(1, 0), 998 fits", x.read(1, 0), 48);
    onlyAsks("read(1, 1)", busy, y -> y.read(1, 1));

    for (int a : new int[] {-1, 4, LEAST, MOST}) {
      says(33, "BEYOND: no such sheet.");
      refused("book(" + a + ", 0)", busy, y -> y.book(a, 0), BEYOND);
      says(34, "BEYOND: no such sheet.");
      refused("read(" + a + ", 0)", busy, y -> y.read(a, 0), BEYOND);
    }
    for (int a : new int[] {-1, 2, LEAST, MOST}) {
      says(33, "MISSING. BEYOND: boat.");
      refused("book(0, " + a + ")", busy, y -> y.book(0, a), BEYOND);
      refused("book(2, " + a + "), no numbers", busy, y -> y.book(2, a), BEYOND);
      refused("book(3, " + a + ")", busy, y -> y.book(3, a), MISSING);
      refused("book(4, " + a + ")", busy, y -> y.book(4, a), BEYOND);
      says(34, "MISSING. BEYOND: boat.");
      refused("read(0, " + a + ")", busy, y -> y.read(0, a), BEYOND);
      refused("read(2, " + a + "), no numbers", busy, y -> y.read(2, a), BEYOND);
      refused("read(3, " + a + ")", busy, y -> y.read(3, a), MISSING);
      refused("read(4, " + a + ")", busy, y -> y.read(4, a), BEYOND);
    }
  }

  private static void promises35To39() {
    says(35, "All that section 1 tells (THE TAPE not) is kept: 1.");
    GlintNets x = bare();
    due("image() of an empty lake", x.image(), 1);
    x.thing(0, 0, 1);
    x.boat(0);
    x.wind(0, 255);
    x.wind(1, 1);
    x.hours(5);
    tell(x, "fog");
    x.sheet(0, 8, 1);
    due("undo(), to an empty lake", x.undo(), 0);
    for (int what = 0; what < 7; what++) {
      due("now(" + what + ")", x.now(what), 0);
    }
    due("count(0)", x.count(0), 0);
    due("count(2)", x.count(2), 0);
    due("count(1), the tape as it is", x.count(1), 3);
    due("lays(0), the sheets as they are", x.lays(0), 0);
    x = crowded();
    GlintNets y = crowded();
    due("image() of a crowded lake", x.image(), 1);
    y.image();
    for (int i = 0; i < 8; i++) {
      x.set(i, 3, 0);
      x.turn(i, 5);
    }
    x.wind(1, 0);
    x.wind(0, 255);
    due("undo(), to a crowded lake", x.undo(), 8);
    sameLakes("undo()", x, y);
    // What is kept is what was then, not what comes of it later; a text's items are kept, too.
    x = bare();
    lakeOf(x, "tower at 3 high 2 light 7 fee 0;boat 11 net 3;wind 3");
    x.image();
    x.hours(60);
    x.set(0, 1, 0);
    due("undo()", x.undo(), 1);
    int[] of = {1, 3, 2, 7, 0};
    int[] told = {11, 3, 0, 0};
    for (int what = 0; what < 5; what++) {
      due("of(0, " + what + ")", x.of(0, what), of[what]);
    }
    for (int what = 0; what < 4; what++) {
      due("told(0, " + what + ")", x.told(0, what), told[what]);
    }
    due("now(0)", x.now(0), 0);
    due("now(2)", x.now(2), 8);

    says(36, "It becomes what was kept latest (which stays): how many THINGS. NONE: nothing is kept.");
    x = bare();
    x.image();
    x.thing(0, 0, 1);
    x.image();
    x.thing(0, 0, 1);
    x.thing(0, 0, 1);
    due("undo(), the latest", x.undo(), 1);
    due("undo(), it stays", x.undo(), 1);
    x.set(0, 3, 1);
    x.boat(0);
    x.hours(60);
    due("undo(), it stays as it was", x.undo(), 1);
    due("of(0, 3)", x.of(0, 3), 40);
    due("now(0)", x.now(0), 0);
    due("of(1, 0), gone", x.of(1, 0), BEYOND);
    due("told(0, 0), gone", x.told(0, 0), BEYOND);
    due("thing(1, 2, 3), a new one", x.thing(1, 2, 3), 1);
    due("of(1, 3), new", x.of(1, 3), 40);
    refused("undo(), nothing is kept", EdgeTest::bare, z -> z.undo(), NONE);
    refused("undo(), nothing is kept", EdgeTest::crowded, z -> z.undo(), NONE);
    // The hour comes back, too: hours may go again.
    x = at(9999);
    due("hours(1)", x.hours(1), STATE);
    x = at(9998);
    x.image();
    x.hours(1);
    x.undo();
    due("hours(1), once more", x.hours(1), 0);

    says(37, "Nothing is kept: 1 if something was, else 0.");
    x = busy();
    due("tear()", x.tear(), 1);
    due("tear(), once more", x.tear(), 0);
    due("undo()", x.undo(), NONE);
    due("count(0), as it is", x.count(0), 2);
    due("image()", x.image(), 1);
    due("image()", x.image(), 1);
    due("tear(), of two images", x.tear(), 1);
    due("undo(), the older one isn't kept", x.undo(), NONE);
    due("tear()", x.tear(), 0);
    due("tear() of a new one", bare().tear(), 0);
    x.image();
    x.undo();
    due("tear(), undone but kept", x.tear(), 1);

    says(38, "0 THINGS, 1 bytes of THE TAPE, 2 BOATS, 3 COINS of all BOATS together, 4 HOLDS of all together. "
        + "BEYOND: another what.");
    x = crowded();
    due("count(0), the most", x.count(0), 8);
    due("count(1), the most", x.count(1), 120);
    due("count(2), the most", x.count(2), 5);
    x = bare();
    put(x, 0, 0, 1, 40, 3);
    put(x, 0, 1, 1, 40, 9);
    launch(x, 0, 2);
    launch(x, 1, 5);
    x.boat(7);
    x.hours(1);
    due("count(3)", x.count(3), -12);
    due("count(4)", x.count(4), 7);
    for (int what = 0; what < 5; what++) {
      int w = what;
      onlyAsks("count(" + what + ")", EdgeTest::busy, z -> z.count(w));
    }
    for (int what : new int[] {-1, 5, LEAST, MOST}) {
      refused("count(" + what + ")", EdgeTest::busy, z -> z.count(what), BEYOND);
    }

    says(39, "How many acts answered a finding ever (undo() takes none back): which -1: all, 0 to 6: BEYOND to SIZE. "
        + "BEYOND (counted from then on): another one.");
    x = crowded();
    for (int which = -1; which <= 6; which++) {
      due("status(" + which + "), none yet", x.status(which), 0);
    }
    x.image();
    x.boat(48);
    x.boat(0);
    x.thing(0, 0, 1);
    x.as(0, 1);
    x.as(0, 2);
    x.as(0, 3);
    x.brightest();
    x.brightest();
    x.brightest();
    x.brightest();
    for (int i = 0; i < 5; i++) {
      x.hours(1);
    }
    for (int i = 0; i < 6; i++) {
      x.lays(3);
    }
    for (int i = 0; i < 7; i++) {
      x.sheet(0, 0, -1);
    }
    x.undo();
    for (int which = 0; which <= 6; which++) {
      due("status(" + which + ")", x.status(which), which + 1);
    }
    due("status(-1)", x.status(-1), 28);
    for (int which : new int[] {-2, 7, LEAST, MOST}) {
      refused("status(" + which + ")", EdgeTest::busy, z -> z.status(which), BEYOND);
    }
    due("status(7)", x.status(7), BEYOND);
    due("status(0), counted from then on", x.status(0), 2);
    due("status(-2)", x.status(-2), BEYOND);
    due("status(0), counted from then on", x.status(0), 3);
    due("status(-1)", x.status(-1), 30);
    x.undo();
    x.lake();
    due("status(-1), no finding since", x.status(-1), 30);
  }
}
