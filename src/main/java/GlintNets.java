/**
 * A still lake on which boats fish for reflections. The numbered promises of the document say what
 * each call answers; the terms in capitals there are the names here.
 *
 * <p>Everything that a call needs is made in the constructor and used again, so that no call makes
 * an object.
 */
public final class GlintNets {
  private static final int BEYOND = -1000000001;
  private static final int FULL = -1000000002;
  private static final int KIND = -1000000003;
  private static final int NONE = -1000000004;
  private static final int STATE = -1000000005;
  private static final int MISSING = -1000000006;
  private static final int SIZE = -1000000007;
  private static final int FINDINGS = 7;

  private static final int ROWS = 6;
  private static final int COLUMNS = 8;
  private static final int CELLS = 48;
  private static final int MOST_RIPPLES = 255;
  private static final int LAST_HOUR = 9999;
  private static final int DAY = 24;

  private static final int KINDS = 6;
  private static final int THING = 0;
  private static final int TOWER = 1;
  private static final int BRIDE = 2;
  private static final int MOON = 3;
  private static final int STEEPLE = 4;
  private static final int FACE = 5;
  /** The kind above each kind; THING has none. */
  private static final int[] KIND_ABOVE = {-1, THING, THING, THING, TOWER, BRIDE};

  private static final int MOST_THINGS = 8;
  private static final int MOST_HEIGHT = 6;
  private static final int MOST_LIGHT = 99;
  private static final int MOST_FEE = 9;
  private static final int FIRST_HEIGHT = 3;
  private static final int FIRST_LIGHT = 40;
  private static final int FIRST_FEE = 1;

  private static final int MOST_BOATS = 5;
  private static final int MOST_NET = 99;
  private static final int MOST_HOLD = 999;
  private static final int MOST_COINS = 99999;
  private static final int FIRST_NET = 10;

  private static final int MOST_HOURS_AT_ONCE = 60;
  private static final int MOST_HOURS_ON = 72;
  private static final int MOST_HOURS_WEIGHED = 24;

  private static final int MOST_BYTES = 120;

  private static final int SHEETS = 4;
  private static final int MOST_NUMBERS = 40;

  private final Lake present;
  /** Where hours go on, and where a text is read to, without changing what is. */
  private final Lake trial;
  private final Lake kept;
  private boolean somethingKept;
  private final Tape tape;
  private final TextReader reader;
  private final Sheet[] sheets;
  private final int[] findingCounts;

  /** Promise 1. */
  public GlintNets() {
    present = new Lake();
    trial = new Lake();
    kept = new Lake();
    somethingKept = false;
    tape = new Tape();
    reader = new TextReader(tape);
    sheets = new Sheet[SHEETS];
    for (int s = 0; s < SHEETS; s++) {
      sheets[s] = new Sheet();
    }
    findingCounts = new int[FINDINGS];
  }

  // ---- the lake

  /** Promise 2. */
  public int wind(int what, int v) {
    if (what == 0 && isWithin(v, 0, MOST_RIPPLES)) {
      int was = present.ripples;
      present.ripples = v;
      return was;
    }
    if (what == 1 && isWithin(v, 0, 1)) {
      int was = present.fog;
      present.fog = v;
      return was;
    }
    return finding(BEYOND);
  }

  /** Promise 3. */
  public int cell(int cell, int what) {
    if (!isCell(cell)) {
      return finding(BEYOND);
    }
    switch (what) {
      case 0:
        return present.glintOf(cell);
      case 1:
        return present.thingsMirroredIn(cell);
      case 2:
        return present.boatsAt(cell);
      case 3:
        return present.taxOf(cell);
      default:
        return finding(BEYOND);
    }
  }

  // ---- things, boats

  /** Promise 4. */
  public int thing(int kind, int column, int height) {
    if (!isKind(kind) || !isColumn(column) || !isWithin(height, 1, MOST_HEIGHT)) {
      return finding(BEYOND);
    }
    if (present.thingCount >= MOST_THINGS) {
      return finding(FULL);
    }
    present.addThing(kind, column, height, FIRST_LIGHT, FIRST_FEE);
    return present.thingCount - 1;
  }

  /** Promise 5. */
  public int of(int thing, int what) {
    if (!isThing(thing)) {
      return finding(BEYOND);
    }
    Thing asked = present.things[thing];
    switch (what) {
      case 0:
        return asked.kind;
      case 1:
        return asked.column;
      case 2:
        return asked.height;
      case 3:
        return asked.light;
      case 4:
        return asked.fee;
      case 5:
        return asked.reach(present.hour);
      case 6:
        return asked.taxed();
      case 7:
        return asked.shineOfAllRows(present.hour);
      default:
        return finding(BEYOND);
    }
  }

  /** Promise 6. */
  public int set(int thing, int what, int v) {
    if (!isThing(thing)) {
      return finding(BEYOND);
    }
    Thing changed = present.things[thing];
    int was;
    if (what == 1 && isColumn(v)) {
      was = changed.column;
      changed.column = v;
    } else if (what == 2 && isWithin(v, 1, MOST_HEIGHT)) {
      was = changed.height;
      changed.height = v;
    } else if (what == 3 && isWithin(v, 0, MOST_LIGHT)) {
      was = changed.light;
      changed.light = v;
    } else if (what == 4 && isWithin(v, 0, MOST_FEE)) {
      was = changed.fee;
      changed.fee = v;
    } else {
      was = finding(BEYOND);
    }
    return was;
  }

  /** Promise 7. */
  public int turn(int thing, int kind) {
    if (!isThing(thing) || !isKind(kind)) {
      return finding(BEYOND);
    }
    int was = present.things[thing].kind;
    present.things[thing].kind = kind;
    return was;
  }

  /** Promise 8. */
  public int as(int thing, int kind) {
    if (!isThing(thing) || !isKind(kind)) {
      return finding(BEYOND);
    }
    if (!present.things[thing].isOfKind(kind)) {
      return finding(KIND);
    }
    return present.things[thing].light;
  }

  /** Promise 9. */
  public int boat(int cell) {
    if (!isCell(cell)) {
      return finding(BEYOND);
    }
    if (present.boatCount >= MOST_BOATS) {
      return finding(FULL);
    }
    present.addBoat(cell, FIRST_NET);
    return present.boatCount - 1;
  }

  /** Promise 10. */
  public int told(int boat, int what) {
    if (!isBoat(boat)) {
      return finding(BEYOND);
    }
    Boat asked = present.boats[boat];
    switch (what) {
      case 0:
        return asked.at;
      case 1:
        return asked.net;
      case 2:
        return asked.hold;
      case 3:
        return asked.coins;
      case 4:
        return asked.takeFrom(present.glintOf(asked.at));
      default:
        return finding(BEYOND);
    }
  }

  /** Promise 11. */
  public int fit(int boat, int what, int v) {
    if (!isBoat(boat)) {
      return finding(BEYOND);
    }
    Boat changed = present.boats[boat];
    if (what == 0 && isCell(v)) {
      int was = changed.at;
      changed.at = v;
      return was;
    }
    if (what == 1 && isWithin(v, 0, MOST_NET)) {
      int was = changed.net;
      changed.net = v;
      return was;
    }
    return finding(BEYOND);
  }

  // ---- hours

  /** Promise 12. */
  public int hours(int n) {
    if (!isWithin(n, 1, MOST_HOURS_AT_ONCE)) {
      return finding(BEYOND);
    }
    if (present.hour + n > LAST_HOUR) {
      return finding(STATE);
    }
    present.passHours(n);
    return present.coinsOfAll();
  }

  /** Promise 13. */
  public int now(int what) {
    switch (what) {
      case 0:
        return present.hour;
      case 1:
        return present.hour % DAY;
      case 2:
        return present.ripples;
      case 3:
        return present.fog;
      case 4:
        return present.lightOfAll();
      case 5:
        return present.glintOfAll();
      case 6:
        return present.darkThings();
      default:
        return finding(BEYOND);
    }
  }

  /** Promise 14. */
  public int on(int boat, int n, int what) {
    if (!isBoat(boat) || !isWithin(n, 0, MOST_HOURS_ON) || !isWithin(what, 0, 1)) {
      return finding(BEYOND);
    }
    trial.become(present);
    trial.passHours(n);
    return what == 0 ? trial.boats[boat].hold : trial.boats[boat].coins;
  }

  /** Promise 15. */
  public int light(int thing, int n) {
    if (!isThing(thing) || !isWithin(n, 0, MOST_HOURS_ON)) {
      return finding(BEYOND);
    }
    trial.become(present);
    trial.passHours(n);
    return trial.things[thing].light;
  }

  /** Promise 16. */
  public int full(int boat, int v) {
    if (!isBoat(boat) || !isWithin(v, 1, MOST_HOLD)) {
      return finding(BEYOND);
    }
    trial.become(present);
    for (int n = 0; n <= MOST_HOURS_ON; n++) {
      if (trial.boats[boat].hold >= v) {
        return n;
      }
      trial.passHour();
    }
    return finding(NONE);
  }

  /** Promise 17. */
  public int dark(int thing) {
    if (!isThing(thing)) {
      return finding(BEYOND);
    }
    trial.become(present);
    for (int n = 0; n <= MOST_HOURS_ON; n++) {
      if (trial.things[thing].light == 0) {
        return n;
      }
      trial.passHour();
    }
    return finding(NONE);
  }

  // ---- what is best

  /** Promise 18. */
  public int brightest() {
    int best = -1;
    int most = 0;
    for (int cell = 0; cell < CELLS; cell++) {
      int glint = present.glintOf(cell);
      if (glint > most) {
        most = glint;
        best = cell;
      }
    }
    return best < 0 ? finding(NONE) : best;
  }

  /** Promise 19. */
  public int spot(int boat, int n) {
    if (!isBoat(boat) || !isWithin(n, 1, MOST_HOURS_WEIGHED)) {
      return finding(BEYOND);
    }
    int best = 0;
    int most = Integer.MIN_VALUE;
    for (int cell = 0; cell < CELLS; cell++) {
      trial.become(present);
      trial.boats[boat].at = cell;
      trial.passHours(n);
      int worth = trial.boats[boat].worth();
      if (worth > most) {
        most = worth;
        best = cell;
      }
    }
    return best;
  }

  /** Promise 20. */
  public int time(int cell) {
    if (!isCell(cell)) {
      return finding(BEYOND);
    }
    trial.become(present);
    int best = 0;
    int most = -1;
    for (int hour = 0; hour < DAY; hour++) {
      trial.hour = hour;
      int glint = trial.glintOf(cell);
      if (glint > most) {
        most = glint;
        best = hour;
      }
    }
    return best;
  }

  /** Promise 21. */
  public int net(int boat, int n) {
    if (!isBoat(boat) || !isWithin(n, 1, MOST_HOURS_WEIGHED)) {
      return finding(BEYOND);
    }
    int best = 0;
    int most = Integer.MIN_VALUE;
    for (int net = 0; net <= MOST_NET; net++) {
      trial.become(present);
      trial.boats[boat].net = net;
      trial.passHours(n);
      int worth = trial.boats[boat].worth();
      if (worth > most) {
        most = worth;
        best = net;
      }
    }
    return best;
  }

  /** Promise 22. */
  public int gives(int boat, int n) {
    if (!isBoat(boat) || !isWithin(n, 1, MOST_HOURS_WEIGHED)) {
      return finding(BEYOND);
    }
    trial.become(present);
    trial.passHours(n);
    int least = trial.boats[boat].worth();
    int giver = -1;
    for (int thing = 0; thing < present.thingCount; thing++) {
      trial.become(present);
      trial.things[thing].light = 0;
      trial.passHours(n);
      int worth = trial.boats[boat].worth();
      if (worth < least) {
        least = worth;
        giver = thing;
      }
    }
    return giver < 0 ? finding(NONE) : giver;
  }

  /** Promise 23. */
  public int kind(int thing, int n) {
    if (!isThing(thing) || !isWithin(n, 1, MOST_HOURS_WEIGHED)) {
      return finding(BEYOND);
    }
    int best = 0;
    int most = Integer.MIN_VALUE;
    for (int kind = 0; kind < KINDS; kind++) {
      trial.become(present);
      trial.things[thing].kind = kind;
      trial.passHours(n);
      int worth = trial.coinsOfAll() + trial.holdOfAll();
      if (worth > most) {
        most = worth;
        best = kind;
      }
    }
    return best;
  }

  /** Promise 24. */
  public int rival(int boat, int other, int n) {
    if (!isBoat(boat) || !isBoat(other) || boat == other) {
      return finding(BEYOND);
    }
    if (!isWithin(n, 1, MOST_HOURS_WEIGHED)) {
      return finding(BEYOND);
    }
    trial.become(present);
    trial.passHours(n);
    int worthAsItIs = trial.boats[boat].worth();
    trial.become(present);
    trial.boats[other].net = 0;
    trial.passHours(n);
    return trial.boats[boat].worth() - worthAsItIs;
  }

  /**
   * Promise 25. Ripples lie on whole columns, so no detour leads around one: the way is straight,
   * or there is none.
   */
  public int way(int from, int to) {
    if (!isCell(from) || !isCell(to)) {
      return finding(BEYOND);
    }
    int left = Math.min(from % COLUMNS, to % COLUMNS);
    int right = Math.max(from % COLUMNS, to % COLUMNS);
    for (int column = left; column <= right; column++) {
      if (present.hasRipples(column)) {
        return finding(NONE);
      }
    }
    return right - left + Math.abs(from / COLUMNS - to / COLUMNS);
  }

  // ---- the text

  /** Promise 26. */
  public int feed(int bytes, int n) {
    if (!isWithin(n, 1, 4)) {
      return finding(BEYOND);
    }
    if (tape.length + n > MOST_BYTES) {
      return finding(FULL);
    }
    for (int i = n - 1; i >= 0; i--) {
      tape.append(bytes >>> (8 * i) & 255);
    }
    return tape.length;
  }

  /** Promise 27. */
  public int wipe() {
    int had = tape.length;
    tape.length = 0;
    return had;
  }

  /** Promise 28. */
  public int lake() {
    trial.become(present);
    int items = reader.readTo(trial);
    if (items >= 0) {
      present.become(trial);
    }
    tape.length = 0;
    return items;
  }

  // ---- sheets

  /** Promise 29. */
  public int sheet(int s, int bits, int n) {
    if (!isSheet(s) || bits != 0 && bits != 8 && bits != 16 && bits != 64) {
      return finding(BEYOND);
    }
    if (n < 0) {
      return finding(SIZE);
    }
    if (n > MOST_NUMBERS) {
      return finding(BEYOND);
    }
    sheets[s].begin(bits, bits == 0 ? 0 : n);
    return sheets[s].size;
  }

  /** Promise 30. */
  public long write(int s, int i, long v) {
    if (!isSheet(s)) {
      return finding(BEYOND);
    }
    if (sheets[s].isMissing()) {
      return finding(MISSING);
    }
    if (i < 0 || i >= sheets[s].size) {
      return finding(BEYOND);
    }
    long was = sheets[s].numbers[i];
    sheets[s].put(i, v);
    return was;
  }

  /** Promise 31. */
  public int copy(int s, int from, int t, int to, int n) {
    if (!isSheet(s) || !isSheet(t)) {
      return finding(BEYOND);
    }
    Sheet source = sheets[s];
    Sheet target = sheets[t];
    if (source.isMissing() || target.isMissing()) {
      return finding(MISSING);
    }
    if (source.bits != target.bits) {
      return finding(KIND);
    }
    if (!source.hasRange(from, n) || !target.hasRange(to, n)) {
      return finding(BEYOND);
    }
    System.arraycopy(source.numbers, from, target.numbers, to, n);
    return n;
  }

  /** Promise 32. */
  public int lays(int s) {
    if (!isSheet(s)) {
      return finding(BEYOND);
    }
    if (sheets[s].isMissing()) {
      return finding(MISSING);
    }
    int came = 0;
    int pairs = Math.min(sheets[s].size, present.thingCount);
    for (int i = 0; i < pairs; i++) {
      long number = sheets[s].numbers[i];
      if (number >= 0 && number <= MOST_LIGHT) {
        present.things[i].light = (int) number;
        came++;
      }
    }
    return came;
  }

  /** Promise 33. */
  public int book(int s, int boat) {
    if (!isSheet(s)) {
      return finding(BEYOND);
    }
    if (sheets[s].isMissing()) {
      return finding(MISSING);
    }
    if (!isBoat(boat)) {
      return finding(BEYOND);
    }
    trial.become(present);
    for (int i = 0; i < sheets[s].size; i++) {
      sheets[s].put(i, trial.boats[boat].hold);
      trial.passHour();
    }
    return sheets[s].size;
  }

  /** Promise 34. */
  public int read(int s, int boat) {
    if (!isSheet(s)) {
      return finding(BEYOND);
    }
    if (sheets[s].isMissing()) {
      return finding(MISSING);
    }
    if (!isBoat(boat)) {
      return finding(BEYOND);
    }
    int found = 0;
    for (int cell = 0; cell < CELLS; cell++) {
      if (isTrueOf(sheets[s], boat, cell)) {
        found++;
      }
    }
    return found;
  }

  // ---- images

  /** Promise 35. */
  public int image() {
    kept.become(present);
    somethingKept = true;
    return 1;
  }

  /** Promise 36. */
  public int undo() {
    if (!somethingKept) {
      return finding(NONE);
    }
    present.become(kept);
    return present.thingCount;
  }

  /** Promise 37. */
  public int tear() {
    int was = somethingKept ? 1 : 0;
    somethingKept = false;
    return was;
  }

  /** Promise 38. */
  public int count(int what) {
    switch (what) {
      case 0:
        return present.thingCount;
      case 1:
        return tape.length;
      case 2:
        return present.boatCount;
      case 3:
        return present.coinsOfAll();
      case 4:
        return present.holdOfAll();
      default:
        return finding(BEYOND);
    }
  }

  /** Promise 39. */
  public int status(int which) {
    if (which >= 0 && which < FINDINGS) {
      return findingCounts[which];
    }
    if (which != -1) {
      return finding(BEYOND);
    }
    int all = 0;
    for (int i = 0; i < FINDINGS; i++) {
      all += findingCounts[i];
    }
    return all;
  }

  // ---- what several calls share

  /** Every finding is answered through here, so that status() knows of it. */
  private int finding(int code) {
    int which = BEYOND - code;
    if (which >= 0 && which < FINDINGS) {
      findingCounts[which]++;
    }
    return code;
  }

  /** Whether the boat's hold, were it at the cell now, would go just as the sheet tells. */
  private boolean isTrueOf(Sheet told, int boat, int cell) {
    trial.become(present);
    trial.boats[boat].at = cell;
    for (int i = 0; i < told.size; i++) {
      if (told.numbers[i] != trial.boats[boat].hold) {
        return false;
      }
      trial.passHour();
    }
    return true;
  }

  private boolean isThing(int thing) {
    return thing >= 0 && thing < present.thingCount;
  }

  private boolean isBoat(int boat) {
    return boat >= 0 && boat < present.boatCount;
  }

  private static boolean isCell(int cell) {
    return isWithin(cell, 0, CELLS - 1);
  }

  private static boolean isColumn(int column) {
    return isWithin(column, 0, COLUMNS - 1);
  }

  private static boolean isKind(int kind) {
    return isWithin(kind, 0, KINDS - 1);
  }

  private static boolean isSheet(int s) {
    return isWithin(s, 0, SHEETS - 1);
  }

  private static boolean isWithin(int v, int least, int most) {
    return v >= least && v <= most;
  }

  /** A thing on the bank; what its kind changes stands in reach, shine and taxed. */
  private static final class Thing {
    int kind;
    int column;
    int height;
    int light;
    int fee;

    Thing() {
      become(THING, 0, FIRST_HEIGHT, FIRST_LIGHT, FIRST_FEE);
    }

    void become(int newKind, int newColumn, int newHeight, int newLight, int newFee) {
      kind = newKind;
      column = newColumn;
      height = newHeight;
      light = newLight;
      fee = newFee;
    }

    boolean isOfKind(int asked) {
      int own = kind;
      for (int level = 0; level < KINDS && own >= 0 && own < KINDS; level++) {
        if (own == asked) {
          return true;
        }
        own = KIND_ABOVE[own];
      }
      return false;
    }

    int reach(int hour) {
      int clock = hour % DAY;
      int asTower = height < ROWS ? height + 1 : ROWS;
      switch (kind) {
        case TOWER:
          return asTower;
        case BRIDE:
        case FACE:
          return clock >= 8 && clock <= 17 ? height : 0;
        case MOON:
          return clock < 6 || clock > 17 ? ROWS : 0;
        case STEEPLE:
          return hour % 2 == 0 ? asTower : asTower / 2;
        default:
          return height;
      }
    }

    int shine(int row) {
      if (row < 0) {
        return 0;
      }
      int asThing = light / (row + 1);
      switch (kind) {
        case BRIDE:
          return 2 * asThing;
        case MOON:
          return asThing / 2;
        case STEEPLE:
          return asThing + row;
        case FACE:
          return light > 0 ? 2 * asThing + 3 : 2 * asThing;
        default:
          return asThing;
      }
    }

    int shineOfAllRows(int hour) {
      int together = 0;
      int rows = reach(hour);
      for (int row = 0; row < rows; row++) {
        together += shine(row);
      }
      return together;
    }

    int taxed() {
      switch (kind) {
        case BRIDE:
          return fee + 2;
        case MOON:
          return 0;
        case FACE:
          return 2 * (fee + 2);
        default:
          return fee;
      }
    }

    boolean isMirroredIn(int cell, int hour) {
      return cell % COLUMNS == column && cell / COLUMNS < reach(hour);
    }

    void dim() {
      light = Math.max(light - 1, 0);
    }

    void brighten() {
      light = Math.min(light + 1, MOST_LIGHT);
    }
  }

  /** A boat with its net. */
  private static final class Boat {
    int at;
    int net;
    int hold;
    int coins;

    Boat() {
      become(0, FIRST_NET, 0, 0);
    }

    void become(int newAt, int newNet, int newHold, int newCoins) {
      at = newAt;
      net = newNet;
      hold = newHold;
      coins = newCoins;
    }

    int takeFrom(int glint) {
      return Math.min(glint, Math.min(net, MOST_HOLD - hold));
    }

    int worth() {
      return coins + hold;
    }

    void earn(int more) {
      coins = Math.max(-MOST_COINS, Math.min(MOST_COINS, coins + more));
    }

    void sell() {
      earn(hold);
      hold = 0;
    }
  }

  /** All that an image keeps: the water, the things, the boats and the hour. */
  private static final class Lake {
    private static final int HOUR_OF_SALE = 20;

    int hour;
    int ripples;
    int fog;
    int thingCount;
    int boatCount;
    final Thing[] things;
    final Boat[] boats;

    Lake() {
      things = new Thing[MOST_THINGS];
      for (int i = 0; i < MOST_THINGS; i++) {
        things[i] = new Thing();
      }
      boats = new Boat[MOST_BOATS];
      for (int i = 0; i < MOST_BOATS; i++) {
        boats[i] = new Boat();
      }
    }

    void become(Lake other) {
      hour = other.hour;
      ripples = other.ripples;
      fog = other.fog;
      thingCount = other.thingCount;
      boatCount = other.boatCount;
      for (int i = 0; i < thingCount; i++) {
        Thing model = other.things[i];
        things[i].become(model.kind, model.column, model.height, model.light, model.fee);
      }
      for (int i = 0; i < boatCount; i++) {
        Boat model = other.boats[i];
        boats[i].become(model.at, model.net, model.hold, model.coins);
      }
    }

    void addThing(int kind, int column, int height, int light, int fee) {
      if (thingCount < MOST_THINGS) {
        things[thingCount].become(kind, column, height, light, fee);
        thingCount++;
      }
    }

    void addBoat(int cell, int net) {
      if (boatCount < MOST_BOATS) {
        boats[boatCount].become(cell, net, 0, 0);
        boatCount++;
      }
    }

    boolean hasRipples(int column) {
      return (ripples >> column & 1) == 1;
    }

    int glintOf(int cell) {
      if (fog == 1) {
        return 0;
      }
      int together = 0;
      for (int i = 0; i < thingCount; i++) {
        if (things[i].isMirroredIn(cell, hour)) {
          together += things[i].shine(cell / COLUMNS);
        }
      }
      return hasRipples(cell % COLUMNS) ? together / 3 : together;
    }

    int glintOfAll() {
      int together = 0;
      for (int cell = 0; cell < CELLS; cell++) {
        together += glintOf(cell);
      }
      return together;
    }

    int thingsMirroredIn(int cell) {
      int found = 0;
      for (int i = 0; i < thingCount; i++) {
        if (things[i].isMirroredIn(cell, hour)) {
          found |= 1 << i;
        }
      }
      return found;
    }

    int boatsAt(int cell) {
      int found = 0;
      for (int i = 0; i < boatCount; i++) {
        if (boats[i].at == cell) {
          found |= 1 << i;
        }
      }
      return found;
    }

    int taxOf(int cell) {
      int together = 0;
      for (int i = 0; i < thingCount; i++) {
        if (things[i].isMirroredIn(cell, hour)) {
          together += things[i].taxed();
        }
      }
      return together;
    }

    void passHours(int n) {
      for (int i = 0; i < n; i++) {
        passHour();
      }
    }

    void passHour() {
      for (int i = 0; i < boatCount; i++) {
        fishWith(boats[i]);
      }
      if (hour % DAY == HOUR_OF_SALE) {
        for (int i = 0; i < boatCount; i++) {
          boats[i].sell();
        }
      }
      if (hour % 4 == 3) {
        for (int i = 0; i < thingCount; i++) {
          things[i].brighten();
        }
      }
      hour++;
    }

    private void fishWith(Boat boat) {
      int take = boat.takeFrom(glintOf(boat.at));
      if (take <= 0) {
        return;
      }
      boat.hold += take;
      boat.earn(-taxOf(boat.at));
      for (int i = 0; i < thingCount; i++) {
        if (things[i].isMirroredIn(boat.at, hour)) {
          things[i].dim();
        }
      }
    }

    int coinsOfAll() {
      int together = 0;
      for (int i = 0; i < boatCount; i++) {
        together += boats[i].coins;
      }
      return together;
    }

    int holdOfAll() {
      int together = 0;
      for (int i = 0; i < boatCount; i++) {
        together += boats[i].hold;
      }
      return together;
    }

    int lightOfAll() {
      int together = 0;
      for (int i = 0; i < thingCount; i++) {
        together += things[i].light;
      }
      return together;
    }

    int darkThings() {
      int found = 0;
      for (int i = 0; i < thingCount; i++) {
        if (things[i].light == 0) {
          found |= 1 << i;
        }
      }
      return found;
    }
  }

  /** A row of numbers, each kept as a signed number of the sheet's bits; 0 bits: missing. */
  private static final class Sheet {
    int bits;
    int size;
    final long[] numbers;

    Sheet() {
      numbers = new long[MOST_NUMBERS];
    }

    boolean isMissing() {
      return bits == 0;
    }

    void begin(int newBits, int newSize) {
      bits = newBits;
      size = newSize;
      for (int i = 0; i < MOST_NUMBERS; i++) {
        numbers[i] = 0;
      }
    }

    /** Keeps the lowest bits alone; i is one of the sheet's numbers. */
    void put(int i, long v) {
      if (i < 0 || i >= size) {
        return;
      }
      if (bits == 8) {
        numbers[i] = (byte) v;
      } else if (bits == 16) {
        numbers[i] = (short) v;
      } else {
        numbers[i] = v;
      }
    }

    /** The subtraction can't wrap around where a sum of two large numbers would. */
    boolean hasRange(int from, int n) {
      return from >= 0 && n >= 0 && from <= size && n <= size - from;
    }
  }

  /** The bytes of a text, each 0 to 255. */
  private static final class Tape {
    int length;
    final int[] bytes;

    Tape() {
      bytes = new int[MOST_BYTES];
    }

    void append(int oneByte) {
      if (length < MOST_BYTES) {
        bytes[length] = oneByte;
        length++;
      }
    }
  }

  /**
   * Reads the text of a lake from the tape, one token ahead. The token that stands is the one that
   * a fault is told of, the end of the tape among them, so a method that refuses leaves it standing.
   */
  private static final class TextReader {
    private static final int END = 0;
    private static final int WORD = 1;
    private static final int NUMBER = 2;
    private static final int SIGN = 3;
    private static final int BLANK = 4;
    private static final int NO_TOKEN = 5;
    /** Above every number that may be, so that longer numbers needn't be told apart. */
    private static final int TOO_MUCH = 1000;
    private static final int FAULT = -1;

    private final Tape tape;
    private int type;
    private int place;
    private int end;
    private int value;

    TextReader(Tape tape) {
      this.tape = tape;
    }

    /** How many items came to the lake, or -1 less the place of the fault. */
    int readTo(Lake lake) {
      end = 0;
      nextToken();
      // Each item has a byte at least, so there are never more items than bytes.
      for (int items = 1; items <= MOST_BYTES; items++) {
        if (!readItem(lake)) {
          return -1 - place;
        }
        if (type == END) {
          return items;
        }
        if (type != SIGN) {
          return -1 - place;
        }
        nextToken();
      }
      return -1 - place;
    }

    private boolean readItem(Lake lake) {
      int kind = kindNamed();
      if (kind != FAULT) {
        return readThing(lake, kind);
      }
      if (isWord("boat")) {
        return readBoat(lake);
      }
      if (isWord("wind")) {
        return readRipples(lake, "wind", true);
      }
      if (isWord("calm")) {
        return readRipples(lake, "calm", false);
      }
      if (isWord("fog") || isWord("clear")) {
        lake.fog = isWord("fog") ? 1 : 0;
        nextToken();
        return true;
      }
      return false;
    }

    private boolean readThing(Lake lake, int kind) {
      if (lake.thingCount >= MOST_THINGS) {
        return false;
      }
      nextToken();
      int column = numberAfter("at", 0, COLUMNS - 1, FAULT);
      if (column == FAULT) {
        return false;
      }
      int height = numberAfter("high", 1, MOST_HEIGHT, FIRST_HEIGHT);
      if (height == FAULT) {
        return false;
      }
      int light = numberAfter("light", 0, MOST_LIGHT, FIRST_LIGHT);
      if (light == FAULT) {
        return false;
      }
      int fee = numberAfter("fee", 0, MOST_FEE, FIRST_FEE);
      if (fee == FAULT) {
        return false;
      }
      lake.addThing(kind, column, height, light, fee);
      return true;
    }

    private boolean readBoat(Lake lake) {
      if (lake.boatCount >= MOST_BOATS) {
        return false;
      }
      int cell = numberAfter("boat", 0, CELLS - 1, FAULT);
      if (cell == FAULT) {
        return false;
      }
      int net = numberAfter("net", 0, MOST_NET, FIRST_NET);
      if (net == FAULT) {
        return false;
      }
      lake.addBoat(cell, net);
      return true;
    }

    private boolean readRipples(Lake lake, String word, boolean rippled) {
      int column = numberAfter(word, 0, COLUMNS - 1, FAULT);
      if (column == FAULT) {
        return false;
      }
      if (rippled) {
        lake.ripples |= 1 << column;
      } else {
        lake.ripples &= ~(1 << column);
      }
      return true;
    }

    /** The number behind a word, or FAULT; otherwise, if another token stands. */
    private int numberAfter(String word, int least, int most, int otherwise) {
      if (!isWord(word)) {
        return otherwise;
      }
      nextToken();
      if (type != NUMBER || value < least || value > most) {
        return FAULT;
      }
      int number = value;
      nextToken();
      return number;
    }

    private int kindNamed() {
      if (isWord("thing")) {
        return THING;
      }
      if (isWord("tower")) {
        return TOWER;
      }
      if (isWord("bride")) {
        return BRIDE;
      }
      if (isWord("moon")) {
        return MOON;
      }
      if (isWord("steeple")) {
        return STEEPLE;
      }
      return isWord("face") ? FACE : FAULT;
    }

    private boolean isWord(String word) {
      if (type != WORD || end - place != word.length()) {
        return false;
      }
      for (int i = 0; i < word.length(); i++) {
        if (tape.bytes[place + i] != word.charAt(i)) {
          return false;
        }
      }
      return true;
    }

    private void nextToken() {
      while (end < tape.length && typeAt(end) == BLANK) {
        end++;
      }
      place = end;
      type = typeAt(place);
      value = 0;
      if (type == WORD) {
        while (end < tape.length && typeAt(end) == WORD) {
          end++;
        }
      } else if (type == NUMBER) {
        while (end < tape.length && typeAt(end) == NUMBER) {
          value = Math.min(10 * value + tape.bytes[end] - '0', TOO_MUCH);
          end++;
        }
      } else if (type != END) {
        end++;
      }
    }

    /** Of which type of token the byte at a place is one; END behind the last byte. */
    private int typeAt(int at) {
      if (at < 0 || at >= tape.length || at >= MOST_BYTES) {
        return END;
      }
      int sign = tape.bytes[at];
      if (sign >= 'a' && sign <= 'z') {
        return WORD;
      }
      if (sign >= '0' && sign <= '9') {
        return NUMBER;
      }
      if (sign == ';') {
        return SIGN;
      }
      return sign == ' ' ? BLANK : NO_TOKEN;
    }
  }
}
