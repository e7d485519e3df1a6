import java.lang.reflect.InvocationTargetException;
import java.lang.reflect.Method;
import java.util.ArrayDeque;
import java.util.ArrayList;
import java.util.Arrays;
import java.util.HashMap;
import java.util.List;
import java.util.Map;
import java.util.Random;
import java.util.function.ToIntFunction;

/**
 * Seeded random runs on GlintNets, compared call by call with a model that is built otherwise:
 * lakes are copied whole, kinds are a tree of classes, ways are searched, texts are cut into tokens
 * first.
 */
public final class ModelTest {
  private static final int RUNS = 300;
  private static final int CALLS = 512;

  private static final long BEYOND = -1000000001L;
  private static final long FULL = -1000000002L;
  private static final long KIND = -1000000003L;
  private static final long NONE = -1000000004L;
  private static final long STATE = -1000000005L;
  private static final long MISSING = -1000000006L;
  private static final long SIZE = -1000000007L;

  // ---- kinds as a tree: each level changes what the one above it says

  static class AsThing {
    int reach(M m, T t) { return t.height; }
    int shine(T t, int r) { return t.light / (r + 1); }
    int taxed(T t) { return t.fee; }
  }

  static class AsTower extends AsThing {
    @Override int reach(M m, T t) { return Math.min(6, super.reach(m, t) + 1); }
  }

  static class AsBride extends AsThing {
    @Override int reach(M m, T t) {
      return m.hour % 24 >= 8 && m.hour % 24 < 18 ? super.reach(m, t) : 0;
    }
    @Override int shine(T t, int r) { return super.shine(t, r) * 2; }
    @Override int taxed(T t) { return super.taxed(t) + 2; }
  }

  static class AsMoon extends AsThing {
    @Override int reach(M m, T t) { return m.hour % 24 < 6 || m.hour % 24 >= 18 ? 6 : 0; }
    @Override int shine(T t, int r) { return super.shine(t, r) / 2; }
    @Override int taxed(T t) { return 0; }
  }

  static class AsSteeple extends AsTower {
    @Override int reach(M m, T t) { return super.reach(m, t) / (m.hour % 2 + 1); }
    @Override int shine(T t, int r) { return super.shine(t, r) + r; }
  }

  static class AsFace extends AsBride {
    @Override int shine(T t, int r) { return super.shine(t, r) + (t.light > 0 ? 3 : 0); }
    @Override int taxed(T t) { return super.taxed(t) * 2; }
  }

  private static final AsThing[] KINDS = {
    new AsThing(), new AsTower(), new AsBride(), new AsMoon(), new AsSteeple(), new AsFace()
  };
  private static final List<String> NAMES =
      List.of("thing", "tower", "bride", "moon", "steeple", "face");

  static final class T {
    int kind, column, height, light = 40, fee = 1;

    T(int kind, int column, int height) {
      this.kind = kind;
      this.column = column;
      this.height = height;
    }

    T(T t) {
      this(t.kind, t.column, t.height);
      light = t.light;
      fee = t.fee;
    }

    AsThing as() { return KINDS[kind]; }
  }

  static final class B {
    int at, net = 10, hold, coins;

    B(int at) { this.at = at; }

    B(B b) {
      this(b.at);
      net = b.net;
      hold = b.hold;
      coins = b.coins;
    }

    int worth() { return coins + hold; }
  }

  /** A lake of the model. */
  static final class M {
    int hour, fog;
    boolean[] rippled = new boolean[8];
    List<T> things = new ArrayList<>();
    List<B> boats = new ArrayList<>();

    M copy() {
      M m = new M();
      m.hour = hour;
      m.fog = fog;
      m.rippled = rippled.clone();
      for (T t : things) m.things.add(new T(t));
      for (B b : boats) m.boats.add(new B(b));
      return m;
    }

    List<T> in(int cell) {
      List<T> found = new ArrayList<>();
      for (T t : things) {
        if (t.column == cell % 8 && t.as().reach(this, t) > cell / 8) found.add(t);
      }
      return found;
    }

    int glint(int cell) {
      if (fog == 1) return 0;
      int sum = in(cell).stream().mapToInt(t -> t.as().shine(t, cell / 8)).sum();
      return rippled[cell % 8] ? sum / 3 : sum;
    }

    int tax(int cell) {
      return in(cell).stream().mapToInt(t -> t.as().taxed(t)).sum();
    }

    int take(B b) {
      int take = glint(b.at);
      if (take > b.net) take = b.net;
      if (b.hold + take > 999) take = 999 - b.hold;
      return take;
    }

    M on(int n) {
      M m = copy();
      for (int i = 0; i < n; i++) m.go();
      return m;
    }

    void go() {
      for (B b : boats) {
        int take = take(b);
        if (take > 0) {
          List<T> there = in(b.at);
          b.coins = held(b.coins - tax(b.at));
          b.hold += take;
          for (T t : there) if (t.light > 0) t.light--;
        }
      }
      if (hour % 24 == 20) {
        for (B b : boats) {
          b.coins = held(b.coins + b.hold);
          b.hold = 0;
        }
      }
      if (hour % 4 == 3) for (T t : things) if (t.light < 99) t.light++;
      hour++;
    }

    static int held(int coins) {
      if (coins > 99999) return 99999;
      return coins < -99999 ? -99999 : coins;
    }

    int sumT(ToIntFunction<T> f) { return things.stream().mapToInt(f).sum(); }
    int sumB(ToIntFunction<B> f) { return boats.stream().mapToInt(f).sum(); }

    int ripples() {
      int set = 0;
      for (int c = 0; c < 8; c++) if (rippled[c]) set += 1 << c;
      return set;
    }

    void ripples(int set) {
      for (int c = 0; c < 8; c++) rippled[c] = (set & 1 << c) != 0;
    }
  }

  // ---- the text: tokens first, then a descent that throws the place of the fault

  record Token(String text, int place) {}

  static final class Fault extends RuntimeException {
    private static final long serialVersionUID = 1;
    final int place;

    Fault(int place) {
      super(null, null, false, false);
      this.place = place;
    }
  }

  static final class Teller {
    final List<Token> tokens = new ArrayList<>();
    int next = 0;

    Teller(String tape) {
      int i = 0;
      while (i < tape.length()) {
        int from = i;
        String letters = "abcdefghijklmnopqrstuvwxyz";
        String digits = "0123456789";
        String set = letters.indexOf(tape.charAt(i)) >= 0 ? letters : digits.indexOf(tape.charAt(i)) >= 0 ? digits : "";
        i++;
        while (i < tape.length() && set.indexOf(tape.charAt(i)) >= 0) i++;
        if (tape.charAt(from) != ' ') tokens.add(new Token(tape.substring(from, i), from));
      }
      tokens.add(new Token("", tape.length()));
    }

    Token peek() { return tokens.get(next); }

    void fault() { throw new Fault(peek().place); }

    boolean accept(String text) {
      if (!peek().text.equals(text)) return false;
      next++;
      return true;
    }

    int number(int least, int most) {
      String text = peek().text;
      if (!text.matches("[0-9]+")) fault();
      String plain = text.replaceFirst("^0+(?=.)", "");
      if (plain.length() > 3) fault();
      int v = Integer.parseInt(plain);
      if (v < least || v > most) fault();
      next++;
      return v;
    }

    int items(M m) {
      int n = 0;
      do {
        item(m);
        n++;
      } while (accept(";"));
      if (!peek().text.isEmpty()) fault();
      return n;
    }

    void item(M m) {
      int kind = NAMES.indexOf(peek().text);
      if (kind >= 0) {
        if (m.things.size() == 8) fault();
        next++;
        if (!accept("at")) fault();
        T t = new T(kind, number(0, 7), 3);
        if (accept("high")) t.height = number(1, 6);
        if (accept("light")) t.light = number(0, 99);
        if (accept("fee")) t.fee = number(0, 9);
        m.things.add(t);
      } else if (peek().text.equals("boat") && m.boats.size() < 5) {
        next++;
        B b = new B(number(0, 47));
        if (accept("net")) b.net = number(0, 99);
        m.boats.add(b);
      } else if (accept("wind")) {
        m.rippled[number(0, 7)] = true;
      } else if (accept("calm")) {
        m.rippled[number(0, 7)] = false;
      } else if (accept("fog")) {
        m.fog = 1;
      } else if (accept("clear")) {
        m.fog = 0;
      } else {
        fault();
      }
    }
  }

  static final class Sheet {
    int bits;
    long[] numbers;

    Sheet(int bits, int n) {
      this.bits = bits;
      numbers = new long[n];
    }

    long cut(long v) {
      return bits == 64 ? v : v << (64 - bits) >> (64 - bits);
    }
  }

  // ---- the model's face

  static final class Model {
    M m = new M();
    M kept;
    StringBuilder tape = new StringBuilder();
    Sheet[] sheets = new Sheet[4];
    int[] found = new int[7];

    long call(String name, long[] a) {
      long answer = answer(name, a);
      boolean plain = name.equals("write") && wrote;
      if (!plain && answer <= BEYOND && answer >= SIZE) found[(int) (BEYOND - answer)]++;
      wrote = false;
      return answer;
    }

    boolean wrote;

    static boolean in(long v, long least, long most) { return v >= least && v <= most; }

    boolean thing(long t) { return in(t, 0, m.things.size() - 1); }
    boolean boat(long b) { return in(b, 0, m.boats.size() - 1); }

    int worth(M with, long boat, long n) { return with.on((int) n).boats.get((int) boat).worth(); }

    long answer(String name, long[] a) {
      switch (name) {
        case "wind": case "cell": case "thing": case "of": case "set": case "turn": case "as":
        case "boat": case "told": case "fit":
          return first(name, a);
        case "hours": case "now": case "on": case "light": case "full": case "dark":
          return hours(name, a);
        case "brightest": case "spot": case "time": case "net": case "gives": case "kind":
        case "rival": case "way":
          return best(name, a);
        default:
          return rest(name, a);
      }
    }

    long first(String name, long[] a) {
      switch (name) {
        case "wind": {
          long was = a[0] == 0 ? m.ripples() : m.fog;
          if (a[0] == 0 && in(a[1], 0, 255)) m.ripples((int) a[1]);
          else if (a[0] == 1 && in(a[1], 0, 1)) m.fog = (int) a[1];
          else return BEYOND;
          return was;
        }
        case "cell": {
          if (!in(a[0], 0, 47) || !in(a[1], 0, 3)) return BEYOND;
          int c = (int) a[0];
          if (a[1] == 0) return m.glint(c);
          if (a[1] == 3) return m.tax(c);
          int set = 0;
          if (a[1] == 1) for (T t : m.in(c)) set += 1 << m.things.indexOf(t);
          if (a[1] == 2) for (B b : m.boats) if (b.at == c) set += 1 << m.boats.indexOf(b);
          return set;
        }
        case "thing":
          if (!in(a[0], 0, 5) || !in(a[1], 0, 7) || !in(a[2], 1, 6)) return BEYOND;
          if (m.things.size() == 8) return FULL;
          m.things.add(new T((int) a[0], (int) a[1], (int) a[2]));
          return m.things.size() - 1;
        case "of": {
          if (!thing(a[0]) || !in(a[1], 0, 7)) return BEYOND;
          T t = m.things.get((int) a[0]);
          int all = 0;
          for (int r = 0; r < t.as().reach(m, t); r++) all += t.as().shine(t, r);
          return new int[] {t.kind, t.column, t.height, t.light, t.fee, t.as().reach(m, t), t.as().taxed(t), all}[(int) a[1]];
        }
        case "set": {
          if (!thing(a[0]) || !in(a[1], 1, 4)) return BEYOND;
          int[][] limits = {{0, 7}, {1, 6}, {0, 99}, {0, 9}};
          int[] limit = limits[(int) a[1] - 1];
          if (!in(a[2], limit[0], limit[1])) return BEYOND;
          T t = m.things.get((int) a[0]);
          int was = new int[] {t.column, t.height, t.light, t.fee}[(int) a[1] - 1];
          if (a[1] == 1) t.column = (int) a[2];
          if (a[1] == 2) t.height = (int) a[2];
          if (a[1] == 3) t.light = (int) a[2];
          if (a[1] == 4) t.fee = (int) a[2];
          return was;
        }
        case "turn": {
          if (!thing(a[0]) || !in(a[1], 0, 5)) return BEYOND;
          T t = m.things.get((int) a[0]);
          int was = t.kind;
          t.kind = (int) a[1];
          return was;
        }
        case "as": {
          if (!thing(a[0]) || !in(a[1], 0, 5)) return BEYOND;
          T t = m.things.get((int) a[0]);
          return KINDS[(int) a[1]].getClass().isInstance(t.as()) ? t.light : KIND;
        }
        case "boat":
          if (!in(a[0], 0, 47)) return BEYOND;
          if (m.boats.size() == 5) return FULL;
          m.boats.add(new B((int) a[0]));
          return m.boats.size() - 1;
        case "told": {
          if (!boat(a[0]) || !in(a[1], 0, 4)) return BEYOND;
          B b = m.boats.get((int) a[0]);
          return new int[] {b.at, b.net, b.hold, b.coins, m.take(b)}[(int) a[1]];
        }
        default: { // fit
          if (!boat(a[0]) || !in(a[1], 0, 1) || !in(a[2], 0, a[1] == 0 ? 47 : 99)) return BEYOND;
          B b = m.boats.get((int) a[0]);
          int was = a[1] == 0 ? b.at : b.net;
          if (a[1] == 0) b.at = (int) a[2];
          else b.net = (int) a[2];
          return was;
        }
      }
    }

    long hours(String name, long[] a) {
      switch (name) {
        case "hours":
          if (!in(a[0], 1, 60)) return BEYOND;
          if (m.hour + a[0] > 9999) return STATE;
          m = m.on((int) a[0]);
          return m.sumB(b -> b.coins);
        case "now": {
          if (!in(a[0], 0, 6)) return BEYOND;
          int glints = 0;
          for (int c = 0; c < 48; c++) glints += m.glint(c);
          int dark = 0;
          for (int t = 0; t < m.things.size(); t++) if (m.things.get(t).light == 0) dark |= 1 << t;
          return new int[] {m.hour, m.hour % 24, m.ripples(), m.fog, m.sumT(t -> t.light), glints, dark}[(int) a[0]];
        }
        case "on": {
          if (!boat(a[0]) || !in(a[1], 0, 72) || !in(a[2], 0, 1)) return BEYOND;
          B b = m.on((int) a[1]).boats.get((int) a[0]);
          return a[2] == 0 ? b.hold : b.coins;
        }
        case "light":
          if (!thing(a[0]) || !in(a[1], 0, 72)) return BEYOND;
          return m.on((int) a[1]).things.get((int) a[0]).light;
        case "full":
          if (!boat(a[0]) || !in(a[1], 1, 999)) return BEYOND;
          for (int n = 0; n <= 72; n++) if (m.on(n).boats.get((int) a[0]).hold >= a[1]) return n;
          return NONE;
        default: // dark
          if (!thing(a[0])) return BEYOND;
          for (int n = 0; n <= 72; n++) if (m.on(n).things.get((int) a[0]).light == 0) return n;
          return NONE;
      }
    }

    /** The least place of the most. */
    static int most(int[] values) {
      int top = Arrays.stream(values).max().getAsInt();
      int i = 0;
      while (values[i] != top) i++;
      return i;
    }

    long best(String name, long[] a) {
      switch (name) {
        case "brightest": {
          int[] glints = new int[48];
          for (int c = 0; c < 48; c++) glints[c] = m.glint(c);
          int best = most(glints);
          return glints[best] == 0 ? NONE : best;
        }
        case "spot": {
          if (!boat(a[0]) || !in(a[1], 1, 24)) return BEYOND;
          int[] worths = new int[48];
          for (int c = 0; c < 48; c++) {
            M with = m.copy();
            with.boats.get((int) a[0]).at = c;
            worths[c] = worth(with, a[0], a[1]);
          }
          return most(worths);
        }
        case "time": {
          if (!in(a[0], 0, 47)) return BEYOND;
          int[] glints = new int[24];
          for (int h = 0; h < 24; h++) {
            M with = m.copy();
            with.hour = h;
            glints[h] = with.glint((int) a[0]);
          }
          return most(glints);
        }
        case "net": {
          if (!boat(a[0]) || !in(a[1], 1, 24)) return BEYOND;
          int[] worths = new int[100];
          for (int net = 0; net < 100; net++) {
            M with = m.copy();
            with.boats.get((int) a[0]).net = net;
            worths[net] = worth(with, a[0], a[1]);
          }
          return most(worths);
        }
        case "gives": {
          if (!boat(a[0]) || !in(a[1], 1, 24)) return BEYOND;
          if (m.things.isEmpty()) return NONE;
          int asIs = worth(m, a[0], a[1]);
          int[] losses = new int[m.things.size()];
          for (int t = 0; t < losses.length; t++) {
            M with = m.copy();
            with.things.get(t).light = 0;
            losses[t] = asIs - worth(with, a[0], a[1]);
          }
          int best = most(losses);
          return losses[best] > 0 ? best : NONE;
        }
        case "kind": {
          if (!thing(a[0]) || !in(a[1], 1, 24)) return BEYOND;
          int[] worths = new int[6];
          for (int k = 0; k < 6; k++) {
            M with = m.copy();
            with.things.get((int) a[0]).kind = k;
            worths[k] = with.on((int) a[1]).sumB(B::worth);
          }
          return most(worths);
        }
        case "rival": {
          if (!boat(a[0]) || !boat(a[1]) || a[0] == a[1] || !in(a[2], 1, 24)) return BEYOND;
          M with = m.copy();
          with.boats.get((int) a[1]).net = 0;
          return worth(with, a[0], a[2]) - worth(m, a[0], a[2]);
        }
        default: // way
          if (!in(a[0], 0, 47) || !in(a[1], 0, 47)) return BEYOND;
          return search((int) a[0], (int) a[1]);
      }
    }

    long search(int from, int to) {
      int[] steps = new int[48];
      Arrays.fill(steps, -1);
      ArrayDeque<Integer> open = new ArrayDeque<>();
      if (!m.rippled[from % 8]) {
        steps[from] = 0;
        open.add(from);
      }
      while (!open.isEmpty()) {
        int c = open.remove();
        int[] beside = {c - 8, c % 8 == 7 ? -1 : c + 1, c + 8, c % 8 == 0 ? -1 : c - 1};
        for (int next : beside) {
          if (next < 0 || next > 47 || m.rippled[next % 8] || steps[next] >= 0) continue;
          steps[next] = steps[c] + 1;
          open.add(next);
        }
      }
      return steps[to] < 0 ? NONE : steps[to];
    }

    long rest(String name, long[] a) {
      switch (name) {
        case "feed":
          if (!in(a[1], 1, 4)) return BEYOND;
          if (tape.length() + a[1] > 120) return FULL;
          for (int i = 4 - (int) a[1]; i < 4; i++) tape.append((char) (a[0] >> 24 - 8 * i & 255));
          return tape.length();
        case "wipe": {
          int had = tape.length();
          tape.setLength(0);
          return had;
        }
        case "lake": {
          Teller teller = new Teller(tape.toString());
          tape.setLength(0);
          M with = m.copy();
          try {
            int items = teller.items(with);
            m = with;
            return items;
          } catch (Fault f) {
            return -1 - f.place;
          }
        }
        case "image":
          kept = m.copy();
          return 1;
        case "undo":
          if (kept == null) return NONE;
          m = kept.copy();
          return m.things.size();
        case "tear": {
          int was = kept == null ? 0 : 1;
          kept = null;
          return was;
        }
        case "count":
          if (!in(a[0], 0, 4)) return BEYOND;
          return new int[] {m.things.size(), tape.length(), m.boats.size(), m.sumB(b -> b.coins), m.sumB(b -> b.hold)}[(int) a[0]];
        case "status":
          if (!in(a[0], -1, 6)) return BEYOND;
          return a[0] == -1 ? Arrays.stream(found).sum() : found[(int) a[0]];
        case "sheet":
          if (!in(a[0], 0, 3) || !List.of(0L, 8L, 16L, 64L).contains(a[1])) return BEYOND;
          if (a[2] < 0) return SIZE;
          if (a[2] > 40) return BEYOND;
          sheets[(int) a[0]] = a[1] == 0 ? null : new Sheet((int) a[1], (int) a[2]);
          return a[1] == 0 ? 0 : a[2];
        default:
          return sheets(name, a);
      }
    }

    long sheets(String name, long[] a) {
      if (!in(a[0], 0, 3)) return BEYOND;
      if (name.equals("copy") && !in(a[2], 0, 3)) return BEYOND;
      Sheet s = sheets[(int) a[0]];
      if (s == null) return MISSING;
      switch (name) {
        case "write": {
          if (!in(a[1], 0, s.numbers.length - 1)) return BEYOND;
          long was = s.numbers[(int) a[1]];
          s.numbers[(int) a[1]] = s.cut(a[2]);
          wrote = true;
          return was;
        }
        case "copy": {
          Sheet t = sheets[(int) a[2]];
          if (t == null) return MISSING;
          if (s.bits != t.bits) return KIND;
          if (a[1] < 0 || a[3] < 0 || a[4] < 0) return BEYOND;
          if (a[1] + a[4] > s.numbers.length || a[3] + a[4] > t.numbers.length) return BEYOND;
          long[] were = s.numbers.clone();
          for (int i = 0; i < a[4]; i++) t.numbers[(int) a[3] + i] = were[(int) a[1] + i];
          return a[4];
        }
        case "lays": {
          int came = 0;
          for (int i = 0; i < s.numbers.length; i++) {
            if (thing(i) && in(s.numbers[i], 0, 99)) {
              m.things.get(i).light = (int) s.numbers[i];
              came++;
            }
          }
          return came;
        }
        case "book":
          if (!boat(a[1])) return BEYOND;
          for (int i = 0; i < s.numbers.length; i++) s.numbers[i] = s.cut(m.on(i).boats.get((int) a[1]).hold);
          return s.numbers.length;
        default: { // read
          if (!boat(a[1])) return BEYOND;
          int cells = 0;
          for (int c = 0; c < 48; c++) {
            M with = m.copy();
            with.boats.get((int) a[1]).at = c;
            boolean so = true;
            for (int i = 0; i < s.numbers.length && so; i++) {
              so = with.boats.get((int) a[1]).hold == s.numbers[i];
              with.go();
            }
            if (so) cells++;
          }
          return cells;
        }
      }
    }
  }

  // ---- random calls

  /** Each call with the largest value of each of its arguments that is worth trying often. */
  private static final String[] CALLS_OF_THE_FACE = {
    "wind 1 255", "wind 1 1", "cell 47 3", "cell 47 3", "thing 5 7 6", "thing 5 7 6", "of 7 7", "of 7 7",
    "set 7 4 9", "set 7 3 99", "set 7 3 3", "turn 7 5", "as 7 5", "boat 47", "told 4 4", "told 4 4",
    "fit 4 0 47", "fit 4 1 99", "fit 4 1 20", "hours 60", "hours 4", "hours 4", "now 6", "now 6",
    "on 4 72 1", "light 7 72", "full 4 300", "full 4 999", "dark 7", "brightest", "spot 4 24",
    "time 47", "net 4 24", "gives 4 24", "kind 7 24", "rival 4 4 24", "way 47 47", "feed 0 4", "wipe",
    "lake", "sheet 3 64 40", "sheet 3 64 4", "write 3 40 99", "write 3 4 99", "copy 3 6 3 6 8",
    "lays 3", "book 3 4", "read 3 4", "image", "undo", "tear", "count 4", "status 6", "text", "text"
  };

  private static final String[] PIECES = {
    "thing", "tower", "bride", "moon", "steeple", "face", "at", "high", "light", "fee", "boat", "net",
    "wind", "calm", "fog", "clear", ";", " ", "  ", "0", "3", "7", "47", "99", "100", "999", "1000",
    "A", "#", "x", "\t", "\u0000", "\u00ff", ";;"
  };

  private static final long[] ODD = {
    -1, -2, 8, 16, 64, 41, 48, 73, 25, 61, 100, 1000, 256, 7, 5, Integer.MIN_VALUE, Integer.MAX_VALUE
  };

  private final Random random;
  private final Map<String, Method> face = new HashMap<>();
  private GlintNets real;
  private Model model;
  private final List<String> log = new ArrayList<>();

  private ModelTest(long seed) {
    random = new Random(seed);
    for (Method method : GlintNets.class.getDeclaredMethods()) {
      if (java.lang.reflect.Modifier.isPublic(method.getModifiers())) face.put(method.getName(), method);
    }
  }

  private boolean same(String name, long... args) throws IllegalAccessException {
    Method method = face.get(name);
    Object[] boxed = new Object[args.length];
    for (int i = 0; i < args.length; i++) {
      if (method.getParameterTypes()[i] == int.class) boxed[i] = (int) args[i];
      else boxed[i] = args[i];
    }
    String call = name + Arrays.toString(args);
    long want = model.call(name, args);
    long got;
    try {
      got = ((Number) method.invoke(real, boxed)).longValue();
    } catch (InvocationTargetException e) {
      System.out.println(call + " threw " + e.getCause() + " behind " + log);
      return false;
    }
    log.add(call + "=" + got);
    if (got != want) System.out.println(call + " answered " + got + ", due is " + want + " behind " + log);
    return got == want;
  }

  private long value(long most) {
    int way = random.nextInt(40);
    if (way == 0) return ODD[random.nextInt(ODD.length)];
    if (way == 1) return random.nextInt();
    if (way == 2) return most + 1;
    if (way < 5) return most;
    return most <= 0 ? random.nextInt(2) : random.nextInt((int) most + 1);
  }

  private String item() {
    StringBuilder text = new StringBuilder();
    int form = random.nextInt(10);
    if (form < 4) {
      text.append(NAMES.get(random.nextInt(6))).append(" at ").append(random.nextInt(random.nextInt(9) == 0 ? 9 : 8));
      if (random.nextBoolean()) text.append(" high ").append(1 + random.nextInt(random.nextInt(9) == 0 ? 9 : 6));
      if (random.nextBoolean()) text.append(" light").append(random.nextInt(random.nextInt(9) == 0 ? 120 : 100));
      if (random.nextBoolean()) text.append(" fee ").append(random.nextInt(random.nextInt(9) == 0 ? 12 : 10));
    } else if (form < 6) {
      text.append("boat ").append(random.nextInt(random.nextInt(9) == 0 ? 50 : 48));
      if (random.nextBoolean()) text.append("net ").append(random.nextInt(random.nextInt(9) == 0 ? 110 : 100));
    } else if (form < 8) {
      text.append(random.nextBoolean() ? "wind " : "calm  ").append(random.nextInt(random.nextInt(9) == 0 ? 9 : 8));
    } else {
      text.append(random.nextBoolean() ? "fog" : "clear");
    }
    return text.toString();
  }

  private String text() {
    StringBuilder text = new StringBuilder();
    int items = random.nextInt(5);
    for (int i = 0; i < items; i++) {
      if (i > 0) text.append(random.nextInt(20) == 0 ? " " : ";");
      if (random.nextInt(15) == 0) text.append(PIECES[random.nextInt(PIECES.length)]);
      text.append(item());
      if (random.nextInt(15) == 0) text.append(PIECES[random.nextInt(PIECES.length)]);
    }
    if (random.nextInt(3) == 0 && text.length() > 0) {
      int at = random.nextInt(text.length());
      if (random.nextBoolean()) text.insert(at, PIECES[random.nextInt(PIECES.length)]);
      else text.deleteCharAt(at);
    }
    if (random.nextInt(10) == 0) text.setLength(random.nextInt(text.length() + 1));
    if (text.length() > 120) text.setLength(120);
    return text.toString();
  }

  /** A text whole, with the tape wiped before: how many calls, or -1 if an answer was wrong. */
  private int textCalls() throws IllegalAccessException {
    String text = text();
    int calls = 2;
    if (!same("wipe")) return -1;
    int i = 0;
    while (i < text.length()) {
      int n = Math.min(text.length() - i, random.nextInt(8) == 0 ? 1 + random.nextInt(4) : 4);
      int bytes = n == 4 ? 0 : random.nextInt();
      for (int k = 0; k < n; k++) bytes = bytes << 8 | text.charAt(i + k);
      if (!same("feed", bytes, n)) return -1;
      calls++;
      i += n;
    }
    return same("lake") ? calls : -1;
  }

  private int oneCall() throws IllegalAccessException {
    String[] parts = CALLS_OF_THE_FACE[random.nextInt(CALLS_OF_THE_FACE.length)].split(" ");
    if (parts[0].equals("text")) return textCalls();
    long[] args = new long[parts.length - 1];
    for (int i = 0; i < args.length; i++) args[i] = (int) value(Long.parseLong(parts[i + 1]));
    if (parts[0].equals("sheet") && random.nextInt(10) != 0) {
      args[1] = new long[] {8, 16, 64, 0, 8, 16, 64}[random.nextInt(7)];
    }
    if (parts[0].equals("wind") && parts[2].equals("255") && random.nextBoolean()) args[0] = 0;
    if (parts[0].equals("wind") && random.nextInt(3) == 0) args = new long[] {1, 0};
    if (parts[0].equals("set") && args[1] == 0) args[1] = 3;
    if (parts[0].equals("write") && random.nextInt(4) == 0) args[2] = random.nextLong() >> random.nextInt(64);
    if (parts[0].equals("write") && random.nextInt(30) == 0) args[2] = BEYOND - random.nextInt(7);
    return same(parts[0], args) ? 1 : -1;
  }

  private boolean run() throws IllegalAccessException {
    real = new GlintNets();
    model = new Model();
    log.clear();
    int calls = 0;
    boolean late = random.nextInt(20) == 0;
    for (int i = 0; late && i < 166; i++, calls++) if (!same("hours", 60)) return false;
    // A text may take some forty calls, and twenty come at the end.
    while (calls < CALLS - 80) {
      int made = oneCall();
      if (made < 0) return false;
      calls += made;
    }
    for (int which = -1; which < 7; which++) if (!same("status", which)) return false;
    for (int what = 0; what < 5; what++) if (!same("count", what)) return false;
    for (int what = 0; what < 7; what++) if (!same("now", what)) return false;
    return true;
  }

  public static void main(String[] args) throws IllegalAccessException {
    int runs = args.length > 0 ? Integer.parseInt(args[0]) : RUNS;
    int wrong = 0;
    for (int seed = 0; seed < runs && wrong < 5; seed++) {
      if (!new ModelTest(seed).run()) {
        wrong++;
        System.out.println("run of seed " + seed + " is not as due");
      }
    }
    System.out.println(wrong == 0 ? runs + " runs are as due" : wrong + " runs are not as due");
    if (wrong != 0) System.exit(1);
  }
}
