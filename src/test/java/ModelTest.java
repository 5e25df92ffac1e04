import java.math.BigInteger;
import java.util.ArrayList;
import java.util.Collections;
import java.util.List;
import java.util.Random;
import java.util.TreeSet;

// Mixed runs of calls, each answer compared with that of a slower program that
// keeps whole lists of what was begun, told and delivered and counts them anew.
public final class ModelTest {
  private static final int UNKNOWN = -101, OUTSIDE = -102, ROOM = -104;
  /** Stands for the exception among answers. */
  private static final long THROWN = Long.MIN_VALUE;
  private static final int RUNS = 3000;
  private static final int CALLS = 512;

  static final class Expectation {
    int item, row, place;
    long due;
    boolean ended, late, lost;
  }

  static final class Model {
    final List<long[]> rows = new ArrayList<>();
    final TreeSet<Long> holidays = new TreeSet<>();
    final List<Expectation> begun = new ArrayList<>();
    final List<long[]> told = new ArrayList<>();
    final List<List<Long>> days = new ArrayList<>();
    final List<List<long[]>> events = new ArrayList<>();
    final List<Integer> failed = new ArrayList<>();
    long clock = 0;

    Model() {
      for (int i = 0; i < 5; i++) days.add(new ArrayList<>());
      for (int i = 0; i < 200; i++) events.add(new ArrayList<>());
    }

    static boolean in(long n, long from, long to) {
      return from <= n && n <= to;
    }

    long rule(int state, int place, int service, long within, boolean fails) {
      if (!in(state, 0, 8) || !in(place, -1, 49) || !in(service, -1, 4) || !in(within, 0, 10000000)) return OUTSIDE;
      if (rows.size() == 40) return ROOM;
      rows.add(new long[] {state, place, service, within, fails ? 1 : 0});
      return rows.size();
    }

    boolean timeIsWrong(int item, long t) {
      List<long[]> past = events.get(item);
      return !in(t, 0, 1000000000) || (!past.isEmpty() && t < past.get(past.size() - 1)[1]);
    }

    Expectation expected(int item) {
      for (Expectation e : begun) if (e.item == item && !e.ended) return e;
      return null;
    }

    void end(int item) {
      Expectation e = expected(item);
      if (e != null) e.ended = true;
    }

    long dueAfter(long t, long within) {
      long at = t, left = within;
      while (left > 0) {
        long dayEnd = (at / 86400 + 1) * 86400;
        if (holidays.contains(at / 86400)) {
          at = dayEnd;
          continue;
        }
        long step = Math.min(left, dayEnd - at);
        at += step;
        left -= step;
      }
      return at;
    }

    long event(int item, int state, int place, int service, long t) {
      if (!in(item, 0, 199) || !in(place, 0, 49)) return UNKNOWN;
      if (!in(state, 0, 9) || !in(service, 0, 4) || timeIsWrong(item, t)) return OUTSIDE;
      end(item);
      List<long[]> past = events.get(item);
      past.add(new long[] {state, t});
      if (state == 9) {
        days.get(service).add((t - past.get(0)[1]) / 86400);
        past.clear();
        return 0;
      }
      for (int n = 1; n <= rows.size(); n++) {
        long[] r = rows.get(n - 1);
        if (r[0] != state || (r[1] != -1 && r[1] != place) || (r[2] != -1 && r[2] != service)) continue;
        if (r[4] == 1) {
          if (!failed.contains(n)) failed.add(n);
          return -n;
        }
        Expectation e = new Expectation();
        e.item = item;
        e.row = n;
        e.place = place;
        e.due = dueAfter(t, r[3]);
        begun.add(e);
        return n;
      }
      return 0;
    }

    int tell(Expectation e, int kind) {
      if (told.size() == 400) return 0;
      told.add(new long[] {e.item, kind, e.row, e.place, e.due});
      return 1;
    }

    long tick(long t) {
      if (!in(t, clock, 2000000000)) return OUTSIDE;
      clock = t;
      int n = 0;
      for (int item = 0; item < 200; item++) {
        Expectation e = expected(item);
        if (e == null) continue;
        if (e.due < clock && !e.late) {
          e.late = true;
          n += tell(e, 1);
        }
        if (e.due + 864000 < clock && !e.lost) {
          e.lost = true;
          n += tell(e, 2);
        }
      }
      return n;
    }

    long alarm(int i, int what) {
      return in(i, 0, told.size() - 1) && in(what, 0, 4) ? told.get(i)[what] : -1;
    }

    long state(int item) {
      if (!in(item, 0, 199)) return UNKNOWN;
      List<long[]> past = events.get(item);
      if (past.isEmpty()) return -1;
      long state = -1;
      for (long[] one : past) if (one[0] >= 0) state = one[0];
      Expectation e = expected(item);
      return e == null ? state : e.lost ? state + 200 : e.late ? state + 100 : state;
    }

    long holiday(long day) {
      if (!in(day, 0, 20000)) return OUTSIDE;
      if (holidays.contains(day)) return 0;
      if (holidays.size() == 100) return ROOM;
      holidays.add(day);
      return 1;
    }

    long[] lateAndBegun(int place) {
      long[] n = new long[2];
      for (Expectation e : begun) {
        if (e.place != place) continue;
        n[1]++;
        if (e.late) n[0]++;
      }
      return n;
    }

    long share(int place, int side) {
      if (!in(place, 0, 49)) return UNKNOWN;
      if (!in(side, 0, 1)) return OUTSIDE;
      long[] n = lateAndBegun(place);
      if (n[1] == 0) return THROWN;
      return n[side] / BigInteger.valueOf(n[0]).gcd(BigInteger.valueOf(n[1])).longValue();
    }

    long percentile(int service, int thousandths) {
      if (!in(service, 0, 4) || !in(thousandths, 0, 1000)) return OUTSIDE;
      List<Long> sorted = new ArrayList<>(days.get(service));
      if (sorted.isEmpty()) return -1;
      Collections.sort(sorted);
      int rank = 1;
      while (rank * 1000L < (long) sorted.size() * thousandths) rank++;
      return sorted.get(rank - 1);
    }

    long found(int item, long t) {
      if (!in(item, 0, 199)) return UNKNOWN;
      if (timeIsWrong(item, t)) return OUTSIDE;
      Expectation e = expected(item);
      if (e == null || !e.lost) return 0;
      e.ended = true;
      events.get(item).add(new long[] {-1, t});
      return 1;
    }

    long cluster(int i, int what) {
      List<long[]> list = new ArrayList<>();
      for (int p = 0; p < 50; p++) {
        long[] n = lateAndBegun(p);
        if (n[0] >= 3) list.add(new long[] {p, n[0], n[1]});
      }
      list.sort((a, b) -> a[1] * b[2] != b[1] * a[2] ? Long.compare(b[1] * a[2], a[1] * b[2]) : Long.compare(a[0], b[0]));
      return in(i, 0, list.size() - 1) && in(what, 0, 2) ? list.get(i)[what] : -1;
    }

    long failing(int i) {
      return in(i, 0, failed.size() - 1) ? failed.get(i) : 0;
    }
  }

  /** Draws the calls of one run; few items and places make them meet. */
  static final class Run {
    final Random random;
    final ExpectRows x = new ExpectRows();
    final Model m = new Model();
    final int items, places;
    final long pace;
    final boolean wide;
    long now = 0;
    String call = "";
    long got, want;

    Run(int seed) {
      random = new Random(seed);
      items = new int[] {2, 10, 60, 200}[seed % 4];
      places = new int[] {2, 6, 50}[seed % 3];
      pace = new long[] {300, 40000, 400000, 3000000}[seed / 4 % 4];
      wide = seed % 5 == 0;
    }

    int pick(int from, int to) {
      return from + random.nextInt(to - from + 1);
    }

    /** Now and then a number just outside, or far outside, of what is asked. */
    int odd(int n, int from, int to) {
      int chance = random.nextInt(400);
      if (chance == 0) return from - 1;
      if (chance == 1) return to + 1;
      if (chance == 2) return Integer.MIN_VALUE;
      if (chance == 3) return Integer.MAX_VALUE;
      return n;
    }

    long oddTime(long t, long to) {
      int chance = random.nextInt(300);
      if (chance == 0) return -1;
      if (chance == 1) return to + 1;
      if (chance == 2) return Long.MIN_VALUE;
      if (chance == 3) return Long.MAX_VALUE;
      if (chance == 4) return to;
      return t;
    }

    long aTime() {
      long t = now + (long) (random.nextDouble() * pace) - pace / 4;
      if (random.nextInt(3) == 0) t = t / 86400 * 86400 + pick(-1, 1);
      return oddTime(Math.max(t, 0), 1000000000);
    }

    long within() {
      switch (random.nextInt(5)) {
        case 0: return 0;
        case 1: return pick(1, 500);
        case 2: return 86400L * pick(1, 4) + pick(-1, 1);
        case 3: return pick(0, 200000);
        default: return wide ? pick(0, 10000000) : pick(0, 100000);
      }
    }

    void rule() {
      int s = odd(pick(0, wide ? 8 : 3), 0, 8), p = odd(pick(-1, places - 1), -1, 49), v = odd(pick(-1, 4), -1, 4);
      if (random.nextInt(2) == 0) p = -1;
      if (random.nextInt(2) == 0) v = -1;
      long w = oddTime(within(), 10000000);
      boolean f = random.nextInt(4) == 0;
      call = "rule(" + s + ", " + p + ", " + v + ", " + w + ", " + f + ")";
      got = x.rule(s, p, v, w, f);
      want = m.rule(s, p, v, w, f);
    }

    void event() {
      int i = odd(pick(0, items - 1), 0, 199), p = odd(pick(0, places - 1), 0, 49), v = odd(pick(0, 4), 0, 4);
      int s = odd(random.nextInt(6) == 0 ? 9 : pick(0, wide ? 8 : 3), 0, 9);
      long t = aTime();
      call = "event(" + i + ", " + s + ", " + p + ", " + v + ", " + t + ")";
      got = x.event(i, s, p, v, t);
      want = m.event(i, s, p, v, t);
    }

    void tick() {
      now += (long) (random.nextDouble() * pace);
      long t = now;
      if (random.nextInt(4) == 0 && !m.begun.isEmpty()) {
        Expectation e = m.begun.get(random.nextInt(m.begun.size()));
        t = e.due + (random.nextBoolean() ? 0 : 864000) + pick(0, 1);
      }
      // The greatest clock ends a run's life, so it is drawn seldom.
      if (random.nextInt(100) == 0) t = oddTime(t, 2000000000);
      call = "tick(" + t + ")";
      got = x.tick(t);
      want = m.tick(t);
      now = Math.min(Math.max(now, m.clock), 900000000L);
    }

    void holiday() {
      long day = oddTime(now / 86400 + pick(0, wide ? 60 : 8), 20000);
      call = "holiday(" + day + ")";
      got = x.holiday(day);
      want = m.holiday(day);
    }

    void share() {
      int p = odd(pick(0, places - 1), 0, 49), side = odd(pick(0, 1), 0, 1);
      call = "share(" + p + ", " + side + ")";
      try {
        got = x.share(p, side);
      } catch (ArithmeticException e) {
        got = THROWN;
      }
      want = m.share(p, side);
    }

    void found() {
      int i = odd(pick(0, items - 1), 0, 199);
      long t = aTime();
      call = "found(" + i + ", " + t + ")";
      got = x.found(i, t);
      want = m.found(i, t);
    }

    void ask() {
      int i, what;
      switch (random.nextInt(5)) {
        case 0:
          i = odd(pick(0, m.told.size()), 0, m.told.size());
          what = odd(pick(0, 4), 0, 4);
          call = "alarm(" + i + ", " + what + ")";
          got = x.alarm(i, what);
          want = m.alarm(i, what);
          break;
        case 1:
          i = odd(pick(0, items - 1), 0, 199);
          call = "state(" + i + ")";
          got = x.state(i);
          want = m.state(i);
          break;
        case 2:
          i = odd(pick(0, 4), 0, 4);
          what = odd(random.nextBoolean() ? 50 * pick(0, 20) : pick(0, 1000), 0, 1000);
          call = "percentile(" + i + ", " + what + ")";
          got = x.percentile(i, what);
          want = m.percentile(i, what);
          break;
        case 3:
          i = odd(pick(0, Math.min(places, 8)), 0, 50);
          what = odd(pick(0, 2), 0, 2);
          call = "cluster(" + i + ", " + what + ")";
          got = x.cluster(i, what);
          want = m.cluster(i, what);
          break;
        default:
          i = odd(pick(0, 6), 0, 40);
          call = "failing(" + i + ")";
          got = x.failing(i);
          want = m.failing(i);
          break;
      }
    }

    boolean nextIsRight(int n) {
      int chance = random.nextInt(100);
      if (n < 8 || chance < 3) rule();
      else if (chance < 50) event();
      else if (chance < 58) tick();
      else if (chance < (wide ? 80 : 63)) holiday();
      else if (chance < 85) share();
      else if (chance < 89) found();
      else ask();
      return got == want;
    }
  }

  public static void main(String[] args) {
    int wrong = 0;
    for (int seed = 0; seed < RUNS && wrong < 20; seed++) {
      Run run = new Run(seed);
      for (int n = 0; n < CALLS; n++) {
        if (run.nextIsRight(n)) continue;
        wrong++;
        System.out.println("run " + seed + ", call " + n + ": " + run.call + " answered " + run.got + ", due is " + run.want);
        break;
      }
    }
    System.out.println(wrong == 0 ? "all runs are as due" : wrong + " runs are not as due");
    if (wrong != 0) System.exit(1);
  }
}
