import java.util.ArrayList;
import java.util.List;

// "A call that is refused, or throws, changes nothing": two objects get the same calls, and
// one of them a refused call more; every answer that follows must be the same of both.
public final class RefusedTest {
  private static final int UNKNOWN = -101, OUTSIDE = -102, ROOM = -104;
  /** Stands for the exception among answers. */
  private static final long THROWN = Long.MIN_VALUE;
  private static final long DAY = 86400L, LOST = 864000L;
  private static final int MOST_CALLS = 512;
  private static int wrong = 0;

  interface Call {
    long on(ExpectRows x);
  }

  static final class Refused {
    final String name;
    final long answer;
    final Call call;

    Refused(String name, long answer, Call call) {
      this.name = name;
      this.answer = answer;
      this.call = call;
    }
  }

  private static long share(ExpectRows x, int place, int side) {
    try {
      return x.share(place, side);
    } catch (ArithmeticException e) {
      return THROWN;
    }
  }

  // Items of the run: 0 is late, 1 lost, 2 expected, 3 failed, 4 delivered, 5 found, 6 to 8 late
  // at one place, 9 without a row, 10 delivered and begun anew; all others have had no event.

  private static void someRows(List<Call> calls) {
    calls.add(x -> x.rule(0, -1, -1, 100, false));
    calls.add(x -> x.rule(1, 3, -1, 2 * DAY, false));
    calls.add(x -> x.rule(2, -1, 2, 0, true));
    calls.add(x -> x.rule(3, -1, -1, 0, false));
    calls.add(x -> x.holiday(0));
    calls.add(x -> x.holiday(21));
  }

  private static void someEvents(List<Call> calls) {
    calls.add(x -> x.event(1, 0, 7, 0, 90000));
    calls.add(x -> x.event(5, 0, 7, 1, 90000));
    calls.add(x -> x.event(4, 3, 8, 1, 5));
    calls.add(x -> x.event(4, 9, 8, 1, 3 * DAY));
    calls.add(x -> x.event(10, 9, 8, 2, 3 * DAY));
    calls.add(x -> x.event(10, 0, 9, 2, 21 * DAY - 50));
    calls.add(x -> x.tick(90100 + LOST + 1));
    calls.add(x -> x.found(5, 95000));
    calls.add(x -> x.event(0, 0, 6, 4, 20 * DAY - 101));
    calls.add(x -> x.event(2, 1, 3, 3, 20 * DAY));
    calls.add(x -> x.event(3, 2, 49, 2, 20 * DAY));
    for (int i = 6; i <= 8; i++) {
      int item = i;
      calls.add(x -> x.event(item, 3, 5, 0, 20 * DAY - 5));
    }
    calls.add(x -> x.event(9, 8, 5, 0, 20 * DAY));
    calls.add(x -> x.tick(20 * DAY));
  }

  private static void fullRowsAndHolidays(List<Call> calls) {
    for (int i = 4; i < 40; i++) calls.add(x -> x.rule(4, 11, 3, 50, false));
    for (int i = 2; i < 100; i++) {
      long day = 100 + i;
      calls.add(x -> x.holiday(day));
    }
  }

  private static void questions(List<Call> calls) {
    for (int i = 0; i <= 11; i++) {
      int item = i;
      calls.add(x -> x.state(item));
    }
    calls.add(x -> x.state(199));
    for (int i = 0; i < 12; i++) {
      int alarm = i;
      for (int w = 0; w < 5; w += i < 3 ? 1 : 2) {
        int what = w;
        calls.add(x -> x.alarm(alarm, what));
      }
    }
    for (int p : new int[] {0, 3, 5, 6, 7, 8, 9, 49}) {
      calls.add(x -> share(x, p, 0));
      calls.add(x -> share(x, p, 1));
    }
    for (int s = 0; s < 5; s++) {
      int service = s;
      calls.add(x -> x.percentile(service, 0));
      calls.add(x -> x.percentile(service, 1000));
    }
    for (int i = 0; i < 2; i++) {
      int at = i;
      calls.add(x -> x.cluster(at, 0));
      calls.add(x -> x.cluster(at, 2));
      calls.add(x -> x.failing(at));
    }
  }

  /** These show what no question can: times, the clock, the rows, the holidays and what is due. */
  private static void furtherCalls(List<Call> calls) {
    calls.add(x -> x.tick(20 * DAY - 1));
    calls.add(x -> x.event(9, 8, 5, 0, 20 * DAY));
    calls.add(x -> x.event(11, 2, 0, 2, 0));
    calls.add(x -> x.event(199, 3, 0, 0, 0));
    calls.add(x -> x.found(1, 90000));
    calls.add(x -> x.event(10, 9, 9, 2, 22 * DAY - 50));
    calls.add(x -> x.event(5, 9, 7, 4, 95000));
    calls.add(x -> x.event(9, 9, 5, 4, 21 * DAY));
    calls.add(x -> x.rule(5, -1, -1, 10, false));
    calls.add(x -> x.event(12, 5, 0, 0, 0));
    calls.add(x -> x.event(13, 0, 0, 0, 0));
    calls.add(x -> x.event(14, 0, 0, 0, 5 * DAY));
    calls.add(x -> x.event(15, 4, 0, 0, 21 * DAY - 1));
    calls.add(x -> x.event(16, 6, 0, 0, 0));
    calls.add(x -> x.event(17, 1, 1, 0, 0));
    calls.add(x -> x.event(18, 1, 0, 0, 0));
    calls.add(x -> x.holiday(22));
    calls.add(x -> x.holiday(300));
    calls.add(x -> x.event(19, 0, 0, 0, 22 * DAY - 1));
    calls.add(x -> x.tick(20 * DAY));
    calls.add(x -> x.tick(23 * DAY));
    calls.add(x -> x.tick(23 * DAY + 101));
    calls.add(x -> x.tick(60 * DAY));
    for (int i = 0; i < 20; i++) {
      int item = i;
      calls.add(x -> x.state(item));
    }
  }

  private static void add(List<Refused> list, String name, long answer, Call call) {
    list.add(new Refused(name, answer, call));
  }

  private static void refusedRules(List<Refused> list) {
    for (int s : new int[] {-1, 9}) add(list, "rule, state " + s, OUTSIDE, x -> x.rule(s, -1, -1, 5, true));
    for (int p : new int[] {-2, 50}) add(list, "rule, place " + p, OUTSIDE, x -> x.rule(6, p, -1, 5, true));
    for (int v : new int[] {-2, 5}) add(list, "rule, service " + v, OUTSIDE, x -> x.rule(6, -1, v, 5, true));
    for (long w : new long[] {-1, 10000001L}) add(list, "rule, within " + w, OUTSIDE, x -> x.rule(6, -1, -1, w, true));
  }

  /** Each item of the run has its own way in which a refused event could show. */
  private static void refusedEvents(List<Refused> list) {
    long late = 21 * DAY;
    for (int i : new int[] {-1, 200}) add(list, "event, item " + i, UNKNOWN, x -> x.event(i, 3, 0, 0, late));
    for (int i = 0; i <= 11; i++) {
      int item = i;
      for (int state : new int[] {0, 2, 3, 9}) {
        String of = " of item " + item + " to state " + state;
        for (int p : new int[] {-1, 50}) add(list, "event" + of + ", place " + p, UNKNOWN, x -> x.event(item, state, p, 2, late));
        for (int v : new int[] {-1, 5}) add(list, "event" + of + ", service " + v, OUTSIDE, x -> x.event(item, state, 0, v, late));
        for (long t : new long[] {-1, 1000000001L}) add(list, "event" + of + ", t " + t, OUTSIDE, x -> x.event(item, state, 0, 2, t));
      }
      for (int s : new int[] {-1, 10}) add(list, "event of item " + item + ", state " + s, OUTSIDE, x -> x.event(item, s, 0, 2, late));
    }
  }

  private static void refusedFallingTimes(List<Refused> list) {
    long[] last = {20 * DAY - 101, 90000, 20 * DAY, 20 * DAY, -1, 95000, 20 * DAY - 5, 20 * DAY - 5, 20 * DAY - 5, 20 * DAY, 21 * DAY - 50};
    for (int i = 0; i < last.length; i++) {
      if (last[i] < 0) continue;
      int item = i;
      long t = last[i] - 1;
      for (int state : new int[] {0, 2, 3, 8, 9})
        add(list, "event of item " + item + " to state " + state + ", t falls", OUTSIDE, x -> x.event(item, state, 49, 2, t));
      add(list, "found of item " + item + ", t falls", OUTSIDE, x -> x.found(item, t));
    }
  }

  private static void refusedOthers(List<Refused> list) {
    for (long t : new long[] {-1, 20 * DAY - 1, 2000000001L, Long.MAX_VALUE}) add(list, "tick, t " + t, OUTSIDE, x -> x.tick(t));
    for (int i : new int[] {-1, 200}) {
      add(list, "state, item " + i, UNKNOWN, x -> x.state(i));
      add(list, "found, item " + i, UNKNOWN, x -> x.found(i, 21 * DAY));
    }
    for (int i = 0; i <= 11; i++) {
      int item = i;
      for (long t : new long[] {-1, 1000000001L}) add(list, "found of item " + item + ", t " + t, OUTSIDE, x -> x.found(item, t));
    }
    for (long day : new long[] {-1, 20001, (1L << 32) + 22}) add(list, "holiday, day " + day, OUTSIDE, x -> x.holiday(day));
    for (int p : new int[] {-1, 50}) add(list, "share, place " + p, UNKNOWN, x -> share(x, p, 0));
    for (int side : new int[] {-1, 2}) add(list, "share, side " + side, OUTSIDE, x -> share(x, 5, side));
    for (int side : new int[] {0, 1}) add(list, "share, none begun, side " + side, THROWN, x -> share(x, 49, side));
    for (int v : new int[] {-1, 5}) add(list, "percentile, service " + v, OUTSIDE, x -> x.percentile(v, 500));
    for (int n : new int[] {-1, 1001}) add(list, "percentile, thousandths " + n, OUTSIDE, x -> x.percentile(1, n));
  }

  private static void refusedForRoom(List<Refused> list) {
    add(list, "rule, room", ROOM, x -> x.rule(6, -1, -1, 5, true));
    add(list, "rule, room, no failing one", ROOM, x -> x.rule(5, -1, -1, 5, false));
    for (long day : new long[] {22, 23, 20000}) add(list, "holiday, room, day " + day, ROOM, x -> x.holiday(day));
  }

  private static long[] answers(List<Call> before, Refused refused, List<Call> after) {
    ExpectRows x = new ExpectRows();
    for (Call call : before) call.on(x);
    if (refused != null) {
      long got = refused.call.on(x);
      if (got != refused.answer) tell(refused.name + " answered " + got + ", due is " + refused.answer);
    }
    long[] answers = new long[after.size()];
    for (int i = 0; i < answers.length; i++) answers[i] = after.get(i).on(x);
    return answers;
  }

  private static void tell(String text) {
    wrong++;
    System.out.println(text);
  }

  private static void compare(String when, List<Call> before, List<Refused> refused) {
    List<Call> after = new ArrayList<>();
    questions(after);
    furtherCalls(after);
    questions(after);
    if (before.size() + 1 + after.size() > MOST_CALLS) tell(when + ": the run has too many calls");
    long[] want = answers(before, null, after);
    for (Refused one : refused) {
      long[] got = answers(before, one, after);
      for (int i = 0; i < want.length; i++) {
        if (got[i] == want[i]) continue;
        tell(when + ", " + one.name + ": the " + i + "th call behind it answered " + got[i] + ", without it " + want[i]);
        break;
      }
    }
  }

  /** Else the refused calls would meet other items than those that they are for. */
  private static void itemsAreAsSaid(String when, List<Call> before) {
    int[] want = {100, 200, 1, 2, -1, 0, 103, 103, 103, 8, 0, -1};
    ExpectRows x = new ExpectRows();
    for (Call call : before) call.on(x);
    for (int i = 0; i < want.length; i++)
      if (x.state(i) != want[i]) tell(when + ": item " + i + " is of state " + x.state(i) + ", due is " + want[i]);
  }

  private static List<Refused> refusedAlways() {
    List<Refused> list = new ArrayList<>();
    refusedRules(list);
    refusedEvents(list);
    refusedFallingTimes(list);
    refusedOthers(list);
    return list;
  }

  public static void main(String[] args) {
    List<Call> roomy = new ArrayList<>();
    someRows(roomy);
    someEvents(roomy);
    itemsAreAsSaid("with room", roomy);
    compare("with room", roomy, refusedAlways());

    List<Call> full = new ArrayList<>();
    someRows(full);
    fullRowsAndHolidays(full);
    someEvents(full);
    itemsAreAsSaid("without room", full);
    List<Refused> refused = refusedAlways();
    refusedForRoom(refused);
    compare("without room", full, refused);

    System.out.println(wrong == 0 ? "no refused call changed anything" : wrong + " refused calls were not as due");
    if (wrong != 0) System.exit(1);
  }
}
