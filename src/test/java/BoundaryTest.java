// Each sentence of the document that names a boundary: the last value that is still
// allowed, the first that isn't, and what the calls behind a refused one answer.
// Every object stays within its 512 calls.
public final class BoundaryTest {
  private static final int UNKNOWN = -101, OUTSIDE = -102, ROOM = -104;
  private static final long DAY = 86400L, LOST = 864000L;
  private static final long LAST_EVENT = 1000000000L, LAST_CLOCK = 2000000000L;
  private static int wrong = 0;

  private static void due(String call, long got, long want) {
    if (got != want) {
      wrong++;
      System.out.println(call + " answered " + got + ", due is " + want);
    }
  }

  private static void dueThrow(String call, ExpectRows x, int place, int side) {
    boolean thrown = false;
    try {
      x.share(place, side);
    } catch (ArithmeticException e) {
      thrown = true;
    }
    due(call + " (1 throws ArithmeticException)", thrown ? 1 : 0, 1);
  }

  /** Row 1 is for state 0 anywhere. */
  private static ExpectRows withRow(long within) {
    ExpectRows x = new ExpectRows();
    x.rule(0, -1, -1, within, false);
    return x;
  }

  private static ExpectRows withFailingRow() {
    ExpectRows x = new ExpectRows();
    x.rule(0, -1, -1, 0, true);
    return x;
  }

  // "An object is used for at most 512 calls after it has been made"

  private static void the512thCallOfDeliveries() {
    ExpectRows x = new ExpectRows();
    for (int i = 0; i < 509; i++) x.event(0, 9, 0, 0, 5);
    x.event(0, 0, 0, 0, 0);
    x.event(0, 9, 0, 0, 3 * DAY);
    due("512: the last of 510 deliveries", x.percentile(0, 1000), 3);
  }

  private static void the512thCallOfEvents() {
    ExpectRows x = withRow(0);
    for (int i = 0; i < 509; i++) x.event(i % 200, 0, 0, 0, 5);
    due("512: the 511th call", x.tick(6), 200);
    due("512: the 512th call", x.share(0, 1), 509);
  }

  // "ROWS 1, 2, .. (40 at most)"; promise 2: "ROOM"

  private static void theFortiethRow() {
    ExpectRows x = new ExpectRows();
    for (int n = 1; n <= 39; n++) due("40 rows: number", x.rule(1, -1, -1, 5, false), n);
    due("40 rows: the last", x.rule(2, -1, -1, 5, false), 40);
    due("40 rows: the first too many", x.rule(3, -1, -1, 5, false), ROOM);
    due("40 rows: and again", x.rule(3, -1, -1, 5, true), ROOM);
    due("40 rows: outside comes before room", x.rule(9, -1, -1, 5, false), OUTSIDE);
    due("40 rows: the refused one is no row", x.event(0, 3, 0, 0, 0), 0);
    due("40 rows: nor did it fail", x.failing(0), 0);
    due("40 rows: the last one is", x.event(0, 2, 0, 0, 0), 40);
    due("40 rows: the first is the first yet", x.event(0, 1, 0, 0, 0), 1);
  }

  private static void refusedRowsTakeNoNumber() {
    ExpectRows x = new ExpectRows();
    for (int i = 0; i < 50; i++) due("rule: outside", x.rule(0, -1, -1, -1, false), OUTSIDE);
    for (int n = 1; n <= 40; n++) due("rule: the numbers go on", x.rule(0, 0, 0, 0, false), n);
    due("rule: room", x.rule(0, 0, 0, 0, false), ROOM);
  }

  // Promise 2: "OUTSIDE (state 0 .. 8; place -1 (any) .. 49; service -1 (any) .. 4; within 0 .. 10000000)"

  private static void statesOfRows() {
    ExpectRows x = new ExpectRows();
    due("rule: state -1", x.rule(-1, -1, -1, 5, false), OUTSIDE);
    due("rule: state 9", x.rule(9, -1, -1, 5, false), OUTSIDE);
    due("rule: state least", x.rule(Integer.MIN_VALUE, -1, -1, 5, false), OUTSIDE);
    due("rule: state greatest", x.rule(Integer.MAX_VALUE, -1, -1, 5, false), OUTSIDE);
    due("rule: state 8", x.rule(8, -1, -1, 5, false), 1);
    due("rule: state 0", x.rule(0, -1, -1, 5, false), 2);
    due("rule: of state 8", x.event(0, 8, 0, 0, 0), 1);
    due("rule: of state 0", x.event(0, 0, 0, 0, 0), 2);
    due("rule: of state 7", x.event(0, 7, 0, 0, 0), 0);
    due("rule: of state 9", x.event(0, 9, 0, 0, 0), 0);
  }

  private static void placesOfRows() {
    ExpectRows x = new ExpectRows();
    due("rule: place -2", x.rule(0, -2, -1, 5, false), OUTSIDE);
    due("rule: place 50", x.rule(0, 50, -1, 5, false), OUTSIDE);
    due("rule: place least", x.rule(0, Integer.MIN_VALUE, -1, 5, false), OUTSIDE);
    due("rule: place greatest", x.rule(0, Integer.MAX_VALUE, -1, 5, false), OUTSIDE);
    due("rule: place 49", x.rule(0, 49, -1, 5, false), 1);
    due("rule: place 0", x.rule(0, 0, -1, 5, false), 2);
    due("rule: none for place 1", x.event(0, 0, 1, 0, 0), 0);
    due("rule: none for place 48", x.event(0, 0, 48, 0, 0), 0);
    due("rule: any place", x.rule(0, -1, -1, 5, false), 3);
    due("rule: for place 49", x.event(0, 0, 49, 0, 0), 1);
    due("rule: for place 0", x.event(0, 0, 0, 0, 0), 2);
    due("rule: for place 1", x.event(0, 0, 1, 0, 0), 3);
    due("rule: for place 48", x.event(0, 0, 48, 0, 0), 3);
  }

  private static void servicesOfRows() {
    ExpectRows x = new ExpectRows();
    due("rule: service -2", x.rule(0, -1, -2, 5, false), OUTSIDE);
    due("rule: service 5", x.rule(0, -1, 5, 5, false), OUTSIDE);
    due("rule: service least", x.rule(0, -1, Integer.MIN_VALUE, 5, false), OUTSIDE);
    due("rule: service greatest", x.rule(0, -1, Integer.MAX_VALUE, 5, false), OUTSIDE);
    due("rule: service 4", x.rule(0, -1, 4, 5, false), 1);
    due("rule: service 0", x.rule(0, -1, 0, 5, false), 2);
    due("rule: none for service 1", x.event(0, 0, 0, 1, 0), 0);
    due("rule: none for service 3", x.event(0, 0, 0, 3, 0), 0);
    due("rule: any service", x.rule(0, -1, -1, 5, false), 3);
    due("rule: for service 4", x.event(0, 0, 0, 4, 0), 1);
    due("rule: for service 0", x.event(0, 0, 0, 0, 0), 2);
    due("rule: for service 1", x.event(0, 0, 0, 1, 0), 3);
    due("rule: for service 3", x.event(0, 0, 0, 3, 0), 3);
  }

  private static void timesOfRows() {
    ExpectRows x = new ExpectRows();
    due("rule: within -1", x.rule(0, -1, -1, -1, false), OUTSIDE);
    due("rule: within 10000001", x.rule(0, -1, -1, 10000001L, false), OUTSIDE);
    due("rule: within -1, failing", x.rule(0, -1, -1, -1, true), OUTSIDE);
    due("rule: within 2^32", x.rule(0, -1, -1, 1L << 32, false), OUTSIDE);
    due("rule: within least", x.rule(0, -1, -1, Long.MIN_VALUE, false), OUTSIDE);
    due("rule: within greatest", x.rule(0, -1, -1, Long.MAX_VALUE, false), OUTSIDE);
    due("rule: within 0", x.rule(0, -1, -1, 0, false), 1);
    due("rule: within 10000000", x.rule(1, -1, -1, 10000000L, false), 2);
    x.event(0, 0, 0, 0, 7);
    x.event(1, 1, 0, 0, 7);
    due("rule: 0 seconds, at them", x.tick(7), 0);
    due("rule: 0 seconds, behind them", x.tick(8), 1);
    due("rule: lost", x.tick(10000007L), 1);
    due("rule: 10000000 seconds, behind them", x.tick(10000008L), 1);
    due("rule: when due", x.alarm(2, 4), 10000007L);
  }

  // Promise 3: "UNKNOWN (item, place), OUTSIDE (state 0 .. 9, service 0 .. 4, t 0 .. 1000000000, ..)"

  private static void itemsOfEvents() {
    ExpectRows x = withRow(5);
    due("event: item -1", x.event(-1, 0, 0, 0, 0), UNKNOWN);
    due("event: item 200", x.event(200, 0, 0, 0, 0), UNKNOWN);
    due("event: item least", x.event(Integer.MIN_VALUE, 0, 0, 0, 0), UNKNOWN);
    due("event: item greatest", x.event(Integer.MAX_VALUE, 0, 0, 0, 0), UNKNOWN);
    due("event: nothing was begun", x.tick(100), 0);
    dueThrow("event: at no place", x, 0, 0);
    due("event: item 0", x.event(0, 0, 0, 0, 0), 1);
    due("event: item 199", x.event(199, 0, 0, 0, 0), 1);
    due("event: both are late", x.tick(100), 2);
    due("event: first item 0", x.alarm(0, 0), 0);
    due("event: then item 199", x.alarm(1, 0), 199);
  }

  private static void placesOfEvents() {
    ExpectRows x = withRow(5);
    due("event: place -1 is not any", x.event(0, 0, -1, 0, 0), UNKNOWN);
    due("event: place 50", x.event(0, 0, 50, 0, 0), UNKNOWN);
    due("event: place least", x.event(0, 0, Integer.MIN_VALUE, 0, 0), UNKNOWN);
    due("event: place greatest", x.event(0, 0, Integer.MAX_VALUE, 0, 0), UNKNOWN);
    due("event: a delivery's place 50", x.event(0, 9, 50, 0, 0), UNKNOWN);
    due("event: none came", x.state(0), -1);
    due("event: none was delivered", x.percentile(0, 0), -1);
    due("event: place 0", x.event(0, 0, 0, 0, 0), 1);
    due("event: place 49", x.event(1, 0, 49, 0, 0), 1);
    due("event: begun at 0", x.share(0, 1), 1);
    due("event: begun at 49", x.share(49, 1), 1);
  }

  private static void statesOfEvents() {
    ExpectRows x = withRow(5);
    due("event: state -1", x.event(0, -1, 0, 0, 0), OUTSIDE);
    due("event: state 10", x.event(0, 10, 0, 0, 0), OUTSIDE);
    due("event: state least", x.event(0, Integer.MIN_VALUE, 0, 0, 0), OUTSIDE);
    due("event: state greatest", x.event(0, Integer.MAX_VALUE, 0, 0, 0), OUTSIDE);
    due("event: none came", x.state(0), -1);
    due("event: state 0", x.event(0, 0, 0, 0, 0), 1);
    due("event: is held", x.state(0), 0);
    due("event: state 8", x.event(0, 8, 0, 0, 0), 0);
    due("event: is held", x.state(0), 8);
    due("event: state 9", x.event(0, 9, 0, 0, 0), 0);
    due("event: is a delivery", x.state(0), -1);
    due("event: the only one", x.percentile(0, 1000), 0);
  }

  private static void servicesOfEvents() {
    ExpectRows x = withRow(5);
    due("event: service -1 is not any", x.event(0, 0, 0, -1, 0), OUTSIDE);
    due("event: service 5", x.event(0, 0, 0, 5, 0), OUTSIDE);
    due("event: service least", x.event(0, 0, 0, Integer.MIN_VALUE, 0), OUTSIDE);
    due("event: service greatest", x.event(0, 0, 0, Integer.MAX_VALUE, 0), OUTSIDE);
    due("event: a delivery's service -1", x.event(0, 9, 0, -1, 0), OUTSIDE);
    due("event: a delivery's service 5", x.event(0, 9, 0, 5, 0), OUTSIDE);
    due("event: none came", x.state(0), -1);
    for (int s = 0; s < 5; s++) due("event: none was delivered", x.percentile(s, 0), -1);
    due("event: service 0", x.event(0, 0, 0, 0, 0), 1);
    due("event: service 4", x.event(1, 0, 0, 4, 0), 1);
    x.event(0, 9, 0, 0, DAY);
    x.event(1, 9, 0, 4, 2 * DAY);
    due("event: of service 0", x.percentile(0, 0), 1);
    due("event: of service 4", x.percentile(4, 0), 2);
    for (int s = 1; s < 4; s++) due("event: none of service " + s, x.percentile(s, 0), -1);
  }

  private static void timesOfEvents() {
    ExpectRows x = withRow(5);
    due("event: t -1", x.event(0, 0, 0, 0, -1), OUTSIDE);
    due("event: t 1000000001", x.event(0, 0, 0, 0, LAST_EVENT + 1), OUTSIDE);
    due("event: t 2^32", x.event(0, 0, 0, 0, 1L << 32), OUTSIDE);
    due("event: t least", x.event(0, 0, 0, 0, Long.MIN_VALUE), OUTSIDE);
    due("event: t greatest", x.event(0, 0, 0, 0, Long.MAX_VALUE), OUTSIDE);
    due("event: none came", x.state(0), -1);
    due("event: t 0", x.event(0, 0, 0, 0, 0), 1);
    due("event: t 1000000000", x.event(0, 0, 0, 0, LAST_EVENT), 1);
    due("event: t 1000000001 behind it", x.event(0, 0, 0, 0, LAST_EVENT + 1), OUTSIDE);
    due("event: t 999999999 behind it", x.event(0, 0, 0, 0, LAST_EVENT - 1), OUTSIDE);
    due("event: t 1000000000 again", x.event(0, 0, 0, 0, LAST_EVENT), 1);
    due("event: at the due time", x.tick(LAST_EVENT + 5), 0);
    due("event: behind it", x.tick(LAST_EVENT + 6), 1);
  }

  // "an item's times do not fall"; "or below that of the item's last event"

  private static void timesDoNotFall() {
    ExpectRows x = withRow(10);
    x.event(3, 0, 1, 0, 500);
    due("times: one below", x.event(3, 0, 2, 0, 499), OUTSIDE);
    due("times: one below, a delivery", x.event(3, 9, 2, 0, 499), OUTSIDE);
    due("times: one below, no row", x.event(3, 4, 2, 0, 499), OUTSIDE);
    dueThrow("times: the refused ones began nothing", x, 2, 0);
    due("times: delivered nothing", x.percentile(0, 0), -1);
    due("times: left the state", x.state(3), 0);
    due("times: ended nothing", x.tick(511), 1);
    due("times: begun at the first place", x.alarm(0, 3), 1);
    due("times: the same", x.event(3, 0, 2, 0, 500), 1);
    due("times: another item's are its own", x.event(4, 0, 2, 0, 0), 1);
    due("times: the clock does not bind them", x.event(3, 0, 2, 0, 501), 1);
    due("times: nor the other way", x.tick(511), 1);
  }

  private static void refusedEventsSetNoTime() {
    ExpectRows x = withRow(10);
    due("times: refused by its state", x.event(3, 10, 1, 0, 900), OUTSIDE);
    due("times: by its service", x.event(3, 0, 1, 5, 900), OUTSIDE);
    due("times: by its place", x.event(3, 0, 50, 0, 900), UNKNOWN);
    due("times: an earlier one may come", x.event(3, 0, 1, 0, 100), 1);
    due("times: refused once more", x.event(3, 10, 1, 0, 900), OUTSIDE);
    due("times: and one between", x.event(3, 0, 1, 0, 101), 1);
    due("times: the first one counts", x.event(3, 9, 1, 0, 100 + DAY), 0);
    due("times: from it on", x.percentile(0, 0), 1);
  }

  // "An event ENDS what was expected of its item."

  private static void everyEventEnds() {
    int[] states = {0, 1, 2, 9};
    int[] answers = {1, -2, 0, 0};
    for (int i = 0; i < states.length; i++) {
      ExpectRows x = withRow(10);
      x.rule(1, -1, -1, 10, true);
      x.event(0, 0, 0, 0, 0);
      due("ends: by state " + states[i], x.event(0, states[i], 0, 0, 10), answers[i]);
      due("ends: nothing is late", x.tick(20), 0);
      due("ends: but a new one", x.tick(21), i == 0 ? 1 : 0);
      due("ends: begun", x.share(0, 1), i == 0 ? 2 : 1);
    }
  }

  private static void lateAndLostEnd() {
    int[] states = {0, 1, 2};
    for (int state : states) {
      ExpectRows x = withRow(10);
      x.rule(1, -1, -1, 10, true);
      x.event(0, 0, 0, 0, 0);
      x.tick(11);
      due("ends: late", x.state(0), 100);
      x.event(0, state, 0, 0, 11);
      due("ends: late no more", x.state(0), state);
      x.event(0, 0, 0, 0, 11);
      x.tick(22 + LOST);
      due("ends: lost", x.state(0), 200);
      x.event(0, state, 0, 0, 22);
      due("ends: lost no more", x.state(0), state);
    }
  }

  // "the first row (by numbers) for its state, place and service begins an EXPECTATION, if it does not fail"

  private static void theFirstRowAlone() {
    ExpectRows x = new ExpectRows();
    x.rule(0, 7, -1, 10, true);
    x.rule(0, -1, 3, 20, false);
    x.rule(0, 7, 3, 30, false);
    x.rule(0, -1, -1, 0, true);
    due("first row: it fails, so no other begins one", x.event(0, 0, 7, 3, 0), -1);
    due("first row: any place before a nearer one", x.event(1, 0, 8, 3, 0), 2);
    due("first row: the last", x.event(2, 0, 8, 2, 0), -4);
    due("first row: one was begun", x.tick(LAST_CLOCK), 2);
    due("first row: of item 1", x.alarm(0, 0), 1);
    due("first row: within its time", x.alarm(0, 4), 20);
    dueThrow("first row: a failed one is not begun", x, 7, 1);
    due("first row: failed", x.failing(0), 1);
    due("first row: failed then", x.failing(1), 4);
    due("first row: no more", x.failing(2), 0);
  }

  private static void rowsAreForEventsToCome() {
    ExpectRows x = new ExpectRows();
    due("later row: none yet", x.event(0, 0, 0, 0, 0), 0);
    x.rule(0, -1, -1, 10, false);
    due("later row: begins nothing by itself", x.tick(100), 0);
    due("later row: is for the next event", x.event(0, 0, 0, 0, 0), 1);
    x.rule(0, 0, 0, 0, false);
    due("later row: is no first one", x.event(0, 0, 0, 0, 0), 1);
  }

  // "DUE so many seconds later that are not on HOLIDAYS (a day has 86400 seconds, day 0 begins at 0; ..)"

  private static long dueWith(long[] holidays, long within, long t) {
    ExpectRows x = withRow(within);
    for (long day : holidays) x.holiday(day);
    x.event(0, 0, 0, 0, t);
    x.tick(LAST_CLOCK);
    return x.alarm(0, 4);
  }

  private static void dayZero() {
    long[] zero = {0};
    due("day 0: begins at 0", dueWith(zero, 1, 0), DAY + 1);
    due("day 0: its last second", dueWith(zero, 1, DAY - 1), DAY + 1);
    due("day 0: its end", dueWith(zero, 1, DAY), DAY + 1);
    due("day 0: 0 seconds at its begin", dueWith(zero, 0, 0), 0);
    due("day 0: 0 seconds at its last", dueWith(zero, 0, DAY - 1), DAY - 1);
  }

  private static void theFirstTimeFromTheEventOn() {
    long[] one = {5};
    due("due: the last second before a holiday", dueWith(one, 1, 5 * DAY - 1), 5 * DAY);
    due("due: one second more", dueWith(one, 2, 5 * DAY - 1), 6 * DAY + 1);
    due("due: none more", dueWith(one, 0, 5 * DAY - 1), 5 * DAY - 1);
    due("due: a day, from a day before", dueWith(one, DAY, 4 * DAY), 5 * DAY);
    due("due: a day, a second later", dueWith(one, DAY, 4 * DAY + 1), 6 * DAY + 1);
    due("due: on the holiday, 0 seconds", dueWith(one, 0, 5 * DAY), 5 * DAY);
    due("due: on the holiday, 1 second", dueWith(one, 1, 5 * DAY), 6 * DAY + 1);
    due("due: on its last second, 0 seconds", dueWith(one, 0, 6 * DAY - 1), 6 * DAY - 1);
    due("due: on its last second, 1 second", dueWith(one, 1, 6 * DAY - 1), 6 * DAY + 1);
    due("due: behind it", dueWith(one, 1, 6 * DAY), 6 * DAY + 1);
    due("due: up to the next holiday", dueWith(new long[] {5, 7}, DAY, 5 * DAY), 7 * DAY);
    due("due: over the next one", dueWith(new long[] {7, 5}, DAY + 1, 5 * DAY), 8 * DAY + 1);
  }

  private static void allHolidaysInARow() {
    long[] first = new long[100], last = new long[100];
    for (int i = 0; i < 100; i++) {
      first[i] = 99 - i;
      last[i] = 11574 + i;
    }
    due("holidays: 100 from day 0 on", dueWith(first, 1, 0), 100 * DAY + 1);
    due("holidays: 100 and the greatest time", dueWith(first, 10000000L, 0), 100 * DAY + 10000000L);
    due("holidays: 100 from the last event's day on", dueWith(last, 10000000L, LAST_EVENT), 11674 * DAY + 10000000L);
    due("holidays: 100 and 0 seconds", dueWith(last, 0, LAST_EVENT), LAST_EVENT);
    due("holidays: day 20000 lies behind all that is due", dueWith(new long[] {20000}, 10000000L, LAST_EVENT), LAST_EVENT + 10000000L);
  }

  private static void theLatestOfAllGetsLateAndLost() {
    ExpectRows x = withRow(10000000L);
    for (int i = 0; i < 100; i++) x.holiday(11574 + i);
    x.event(0, 0, 0, 0, LAST_EVENT);
    long latest = 11674 * DAY + 10000000L;
    due("latest: at the due time", x.tick(latest), 0);
    due("latest: late", x.tick(latest + 1), 1);
    due("latest: not lost", x.tick(latest + LOST), 0);
    due("latest: lost", x.tick(latest + LOST + 1), 1);
  }

  // "One that fails is told, and nothing is expected."

  private static void whatFailsExpectsNothing() {
    ExpectRows x = withFailingRow();
    due("fails: told", x.event(0, 0, 0, 0, 0), -1);
    due("fails: no alarm", x.tick(LAST_CLOCK), 0);
    due("fails: no alarm to ask for", x.alarm(0, 0), -1);
    due("fails: the state is held", x.state(0), 0);
    due("fails: not lost", x.found(0, 0), 0);
    dueThrow("fails: not begun", x, 0, 0);
    due("fails: the time is held", x.event(0, 0, 0, 0, 5), -1);
    due("fails: and does not fall", x.event(0, 0, 0, 0, 4), OUTSIDE);
  }

  // "An event of state 9 is DELIVERY: its DAYS are its time less that of the item's first event, by 86400 (cut)"

  private static long daysFor(long first, long delivered) {
    ExpectRows x = new ExpectRows();
    x.event(0, 0, 0, 0, first);
    x.event(0, 9, 0, 0, delivered);
    return x.percentile(0, 0);
  }

  private static void daysAreCut() {
    due("days: at once", daysFor(7, 7), 0);
    due("days: a second less than one", daysFor(7, 7 + DAY - 1), 0);
    due("days: one", daysFor(7, 7 + DAY), 1);
    due("days: over midnight is no day", daysFor(DAY - 1, DAY), 0);
    due("days: a second less than two", daysFor(7, 7 + 2 * DAY - 1), 1);
    due("days: the most", daysFor(0, LAST_EVENT), 11574);
    due("days: the most of whole ones", daysFor(LAST_EVENT - 11574 * DAY, LAST_EVENT), 11574);
    due("days: a second less", daysFor(LAST_EVENT - 11574 * DAY + 1, LAST_EVENT), 11573);
  }

  private static void holidaysAreDaysToDelivery() {
    ExpectRows x = new ExpectRows();
    x.holiday(0);
    x.holiday(1);
    x.event(0, 0, 0, 0, 0);
    x.event(0, 9, 0, 0, 3 * DAY);
    due("days: holidays count here", x.percentile(0, 0), 3);
  }

  // "what comes then for the item is as for a new one"

  private static void asForANewOne() {
    ExpectRows x = withRow(10);
    x.event(0, 0, 1, 0, 5000);
    x.tick(5011);
    due("new: a delivery", x.event(0, 9, 1, 0, 6000), 0);
    due("new: no state", x.state(0), -1);
    due("new: not lost", x.found(0, 6000), 0);
    due("new: nothing is expected", x.tick(LOST * 10), 0);
    due("new: its times begin anew", x.event(0, 0, 2, 0, 0), 1);
    due("new: it gets late", x.tick(LOST * 10), 2);
    due("new: and lost", x.state(0), 200);
    due("new: delivered again", x.event(0, 9, 2, 1, DAY), 0);
    due("new: its days are from the new first one", x.percentile(1, 0), 1);
    due("new: the late one stays counted", x.share(1, 0), 1);
  }

  // "THE CLOCK is 0 at first"; promise 4: "OUTSIDE (below the clock, or above 2000000000)"

  private static void theClocksEnds() {
    ExpectRows x = withRow(0);
    x.event(0, 0, 0, 0, 0);
    due("clock: -1 at first", x.tick(-1), OUTSIDE);
    due("clock: 2000000001 at first", x.tick(LAST_CLOCK + 1), OUTSIDE);
    due("clock: least", x.tick(Long.MIN_VALUE), OUTSIDE);
    due("clock: greatest", x.tick(Long.MAX_VALUE), OUTSIDE);
    due("clock: 2^32", x.tick(1L << 32), OUTSIDE);
    due("clock: the refused ones told nothing", x.alarm(0, 0), -1);
    due("clock: nor made late", x.state(0), 0);
    due("clock: 0 at first", x.tick(0), 0);
    due("clock: 0 again", x.tick(0), 0);
    due("clock: 1", x.tick(1), 1);
    due("clock: 0 no more", x.tick(0), OUTSIDE);
    due("clock: 1 again", x.tick(1), 0);
    due("clock: the last", x.tick(LAST_CLOCK), 1);
    due("clock: the last again", x.tick(LAST_CLOCK), 0);
    due("clock: above it", x.tick(LAST_CLOCK + 1), OUTSIDE);
    due("clock: one below it", x.tick(LAST_CLOCK - 1), OUTSIDE);
    due("clock: it stands", x.tick(LAST_CLOCK), 0);
  }

  // "whose expectation is due before it, and not LATE, is late now"; "due more than 864000 seconds before it"

  private static void lateThenLost() {
    ExpectRows x = withRow(100);
    x.event(6, 0, 0, 0, 50);
    due("late: at the due time", x.tick(150), 0);
    due("late: not yet", x.state(6), 0);
    due("late: a second behind", x.tick(151), 1);
    due("late: now", x.state(6), 100);
    due("late: told once", x.tick(151), 0);
    due("lost: 864000 seconds behind", x.tick(150 + LOST), 0);
    due("lost: not yet", x.state(6), 100);
    due("lost: a second more", x.tick(151 + LOST), 1);
    due("lost: now", x.state(6), 200);
    due("lost: told once", x.tick(152 + LOST), 0);
    due("lost: ever after", x.tick(LAST_CLOCK), 0);
    due("lost: two alarms", x.alarm(2, 0), -1);
  }

  private static void lateAloneOrBoth() {
    ExpectRows x = withRow(0);
    x.event(1, 0, 0, 0, 0);
    x.event(0, 0, 0, 0, 1);
    x.event(2, 0, 0, 0, 1 + LOST);
    due("both: of three", x.tick(1 + LOST), 3);
    int[][] want = {{0, 1}, {1, 1}, {1, 2}};
    for (int i = 0; i < want.length; i++) {
      due("both: item of alarm " + i, x.alarm(i, 0), want[i][0]);
      due("both: kind of alarm " + i, x.alarm(i, 1), want[i][1]);
    }
    due("both: a second later", x.tick(2 + LOST), 2);
    due("both: lost now", x.alarm(3, 0), 0);
    due("both: kind 2", x.alarm(3, 1), 2);
    due("both: late now", x.alarm(4, 0), 2);
    due("both: kind 1", x.alarm(4, 1), 1);
  }

  private static void onlyTheClockMakesLate() {
    ExpectRows x = withRow(0);
    x.tick(1000);
    x.event(0, 0, 0, 0, 5);
    due("late: not by the event", x.state(0), 0);
    x.event(1, 0, 0, 0, LAST_EVENT);
    due("late: not by another's time", x.state(0), 0);
    due("late: no alarm yet", x.alarm(0, 0), -1);
    due("late: by the same clock set anew", x.tick(1000), 1);
    due("late: now", x.state(0), 100);
  }

  // "Each expectation counts at the place of the event that began it: BEGUN, and, .. LATE (once; it stays ..)"

  private static void countsAtThePlaceOfTheBegin() {
    ExpectRows x = withRow(0);
    x.event(0, 0, 10, 0, 0);
    x.event(0, 1, 11, 0, 0);
    dueThrow("counts: where nothing was begun", x, 11, 0);
    x.event(0, 0, 11, 0, 0);
    x.tick(1);
    due("counts: ended in time", x.share(10, 0), 0);
    due("counts: late", x.share(11, 0), 1);
    x.tick(1 + LOST);
    x.event(0, 0, 12, 0, 1);
    x.tick(2 + LOST);
    x.event(0, 9, 13, 0, 1);
    due("counts: lost is late once", x.share(11, 0), 1);
    due("counts: of one", x.share(11, 1), 1);
    due("counts: late at the next place", x.share(12, 0), 1);
    dueThrow("counts: none at the delivery's", x, 13, 1);
  }

  // "REFUSALS are answers, of several the first one here: UNKNOWN .., OUTSIDE .., ROOM"

  private static void theFirstRefusalOfSeveral() {
    ExpectRows x = new ExpectRows();
    for (int i = 0; i < 40; i++) x.rule(1, -1, -1, 0, false);
    for (int i = 0; i < 100; i++) x.holiday(i);
    x.event(0, 1, 0, 0, 100);
    due("refusals: rule, outside and room", x.rule(0, 50, 0, 0, false), OUTSIDE);
    due("refusals: rule, room", x.rule(0, 49, 0, 0, false), ROOM);
    due("refusals: holiday, outside and room", x.holiday(20001), OUTSIDE);
    due("refusals: holiday, room", x.holiday(20000), ROOM);
    due("refusals: event, item and state", x.event(200, 10, 0, 0, 100), UNKNOWN);
    due("refusals: event, item and time", x.event(-1, 0, 0, 0, -1), UNKNOWN);
    due("refusals: event, place and state", x.event(0, 10, 50, 0, 100), UNKNOWN);
    due("refusals: event, place and service", x.event(0, 0, -1, 5, 100), UNKNOWN);
    due("refusals: event, place and fallen time", x.event(0, 0, 50, 0, 99), UNKNOWN);
    due("refusals: event, item and place", x.event(200, 0, 50, 0, 100), UNKNOWN);
    due("refusals: share, place and side", x.share(50, 2), UNKNOWN);
    due("refusals: share, side and none begun", x.share(1, 2), OUTSIDE);
    due("refusals: share, place and none begun", x.share(-1, 0), UNKNOWN);
    due("refusals: found, item and time", x.found(200, -1), UNKNOWN);
    due("refusals: found, fallen time and not lost", x.found(0, 99), OUTSIDE);
    due("refusals: percentile, service and none", x.percentile(5, 0), OUTSIDE);
    due("refusals: percentile, thousandths and none", x.percentile(0, 1001), OUTSIDE);
  }

  // Promise 5: "(0 the first; the first 400 of all are told)"; "-1 when there is none such"

  private static void theFourHundredthAlarm() {
    ExpectRows x = withRow(0);
    for (int i = 0; i < 199; i++) x.event(i, 0, 1, 0, 0);
    due("400: at first", x.tick(1 + LOST), 398);
    due("400: none behind", x.alarm(398, 0), -1);
    x.event(5, 0, 2, 0, LOST);
    due("400: the 399th", x.tick(1 + LOST), 1);
    x.event(6, 0, 2, 0, LOST);
    x.event(7, 0, 2, 0, LOST);
    due("400: the 400th, and one that is not told", x.tick(1 + LOST), 1);
    due("400: the 399th's item", x.alarm(398, 0), 5);
    due("400: the 400th's item", x.alarm(399, 0), 6);
    due("400: its kind", x.alarm(399, 1), 1);
    due("400: its row", x.alarm(399, 2), 1);
    due("400: its place", x.alarm(399, 3), 2);
    due("400: when it was due", x.alarm(399, 4), LOST);
    due("400: no 401st", x.alarm(400, 0), -1);
    due("400: which is late nevertheless", x.state(7), 100);
    due("400: and counts", x.cluster(1, 1), 3);
    due("400: the first stays", x.alarm(0, 0), 0);
    due("400: lost ones are not told either", x.tick(1 + 2 * LOST), 0);
    due("400: but are lost", x.state(7), 200);
    due("400: and found", x.found(7, LOST), 1);
  }

  private static void alarmsBetweenTheEnds() {
    ExpectRows x = withRow(0);
    due("alarm: none yet", x.alarm(0, 0), -1);
    x.event(199, 0, 49, 0, 3);
    x.tick(4);
    long[] want = {199, 1, 1, 49, 3};
    for (int what = 0; what < 5; what++) due("alarm: what " + what, x.alarm(0, what), want[what]);
    int[] wrongs = {-1, 5, Integer.MIN_VALUE, Integer.MAX_VALUE};
    for (int what : wrongs) due("alarm: what " + what, x.alarm(0, what), -1);
    int[] none = {-1, 1, 400, Integer.MIN_VALUE, Integer.MAX_VALUE};
    for (int i : none) due("alarm: i " + i, x.alarm(i, 0), -1);
    due("alarm: the first again", x.alarm(0, 0), 199);
  }

  // Promise 6: "-1 when it has had no event (since its delivery). UNKNOWN."

  private static void itemsOfStates() {
    ExpectRows x = withRow(0);
    int[] none = {-1, 200, Integer.MIN_VALUE, Integer.MAX_VALUE};
    for (int item : none) due("state: item " + item, x.state(item), UNKNOWN);
    due("state: item 0, no event", x.state(0), -1);
    due("state: item 199, no event", x.state(199), -1);
    x.event(199, 8, 0, 0, 0);
    due("state: item 199", x.state(199), 8);
    due("state: item 198", x.state(198), -1);
    x.event(199, 9, 0, 0, 0);
    due("state: since its delivery", x.state(199), -1);
    x.event(198, 9, 0, 0, 0);
    due("state: a delivery alone", x.state(198), -1);
  }

  private static void hundredsOfStates() {
    ExpectRows x = new ExpectRows();
    for (int s = 0; s < 9; s++) x.rule(s, -1, -1, 0, false);
    for (int s = 0; s < 9; s++) x.event(s, s, 0, 0, 0);
    x.tick(0);
    for (int s = 0; s < 9; s++) due("state: as it was", x.state(s), s);
    x.tick(LOST);
    for (int s = 0; s < 9; s++) due("state: late", x.state(s), 100 + s);
    x.tick(LOST + 1);
    for (int s = 0; s < 9; s++) due("state: lost", x.state(s), 200 + s);
  }

  // Promise 7: "(for events to come): 1; 0 if it was; OUTSIDE (not 0 .. 20000), ROOM (100)"

  private static void theHundredthHoliday() {
    ExpectRows x = withRow(1);
    for (int i = 0; i < 99; i++) due("100 holidays: one more", x.holiday(3 * i), 1);
    due("100 holidays: one that was", x.holiday(0), 0);
    due("100 holidays: the last", x.holiday(20000), 1);
    due("100 holidays: the first too many", x.holiday(1), ROOM);
    due("100 holidays: and again", x.holiday(1), ROOM);
    due("100 holidays: one that was needs no room", x.holiday(3), 0);
    due("100 holidays: the last again", x.holiday(20000), 0);
    due("100 holidays: outside comes before room", x.holiday(-1), OUTSIDE);
    x.event(0, 0, 0, 0, DAY);
    x.event(1, 0, 0, 0, 3 * DAY);
    due("100 holidays: the refused one is none", x.tick(DAY + 2), 1);
    due("100 holidays: a held one is", x.tick(4 * DAY + 1), 0);
    due("100 holidays: and ends", x.tick(4 * DAY + 2), 1);
  }

  private static void daysOfHolidays() {
    ExpectRows x = withRow(1);
    long[] wrongs = {-1, 20001, 1L << 32, (1L << 32) + 5, Long.MIN_VALUE, Long.MAX_VALUE};
    for (long day : wrongs) due("holiday: " + day, x.holiday(day), OUTSIDE);
    for (long day : wrongs) due("holiday: still " + day, x.holiday(day), OUTSIDE);
    x.event(0, 0, 0, 0, 0);
    due("holiday: 0", x.holiday(0), 1);
    due("holiday: 0 was", x.holiday(0), 0);
    due("holiday: 20000", x.holiday(20000), 1);
    due("holiday: 20000 was", x.holiday(20000), 0);
    due("holiday: 1", x.holiday(1), 1);
    x.event(1, 0, 0, 0, 0);
    due("holiday: for events to come alone", x.tick(2), 1);
    due("holiday: the one before was due", x.alarm(0, 4), 1);
    due("holiday: for one that came then", x.tick(2 * DAY + 2), 1);
    due("holiday: it was due", x.alarm(1, 4), 2 * DAY + 1);
  }

  // Promise 8: "as a fraction without common divisors"; "ArithmeticException when none was begun there"

  /** So many are begun at a place, and so many of them are late when the clock is 100. */
  private static void begin(ExpectRows x, int from, int place, int late, int begun) {
    for (int i = 0; i < begun; i++) x.event(from + i, 0, place, 0, i < late ? 99 : 100);
  }

  private static void sharesBetweenTheEnds() {
    int[][] cases = {{0, 1, 0, 1}, {1, 1, 1, 1}, {0, 7, 0, 1}, {7, 7, 1, 1}, {1, 2, 1, 2}, {6, 9, 2, 3}, {9, 10, 9, 10}, {12, 18, 2, 3},
      {199, 200, 199, 200}, {100, 200, 1, 2}, {200, 200, 1, 1}, {0, 200, 0, 1}, {128, 192, 2, 3}, {97, 194, 1, 2}};
    for (int[] c : cases) {
      ExpectRows x = withRow(0);
      begin(x, 0, 49, c[0], c[1]);
      x.tick(100);
      due("share: above for " + c[0] + " of " + c[1], x.share(49, 0), c[2]);
      due("share: below for " + c[0] + " of " + c[1], x.share(49, 1), c[3]);
    }
  }

  private static void placesAndSidesOfShares() {
    ExpectRows x = withRow(0);
    dueThrow("share: place 0, none", x, 0, 0);
    dueThrow("share: place 49, none", x, 49, 1);
    dueThrow("share: and again", x, 49, 0);
    x.event(0, 0, 0, 0, 0);
    due("share: place 0, above", x.share(0, 0), 0);
    due("share: place 0, below", x.share(0, 1), 1);
    dueThrow("share: place 49 has none yet", x, 49, 1);
    x.event(1, 0, 49, 0, 0);
    due("share: place 49", x.share(49, 1), 1);
    int[] places = {-1, 50, Integer.MIN_VALUE, Integer.MAX_VALUE};
    for (int place : places) due("share: place " + place, x.share(place, 0), UNKNOWN);
    int[] sides = {-1, 2, Integer.MIN_VALUE, Integer.MAX_VALUE};
    for (int side : sides) due("share: side " + side, x.share(0, side), OUTSIDE);
    for (int side : sides) due("share: none begun, side " + side, x.share(1, side), OUTSIDE);
    due("share: place 0 yet", x.share(0, 1), 1);
  }

  // Promise 9: "(the first one for 0): that at rank n thousandths by 1000, rounded up, of n; -1 when there is none"

  /** Deliveries of 1, 2, .. days, told from the most on. */
  private static ExpectRows withDeliveries(int n) {
    ExpectRows x = new ExpectRows();
    for (int days = n; days >= 1; days--) {
      x.event(0, 0, 0, 0, 0);
      x.event(0, 9, 0, 2, days * DAY);
    }
    return x;
  }

  private static void ranks() {
    int[][] cases = {{1, 0, 1}, {1, 1, 1}, {1, 999, 1}, {1, 1000, 1}, {2, 0, 1}, {2, 500, 1}, {2, 501, 2}, {2, 1000, 2},
      {3, 333, 1}, {3, 334, 2}, {3, 666, 2}, {3, 667, 3}, {4, 250, 1}, {4, 251, 2}, {4, 750, 3}, {4, 751, 4},
      {200, 0, 1}, {200, 5, 1}, {200, 6, 2}, {200, 10, 2}, {200, 11, 3}, {200, 500, 100}, {200, 501, 101}, {200, 995, 199},
      {200, 996, 200}, {200, 1000, 200}, {250, 4, 1}, {250, 5, 2}, {250, 996, 249}, {250, 997, 250}, {250, 999, 250}};
    for (int[] c : cases) due("percentile: " + c[1] + " of " + c[0], withDeliveries(c[0]).percentile(2, c[1]), c[2]);
  }

  private static void servicesAndThousandths() {
    ExpectRows x = withDeliveries(3);
    int[] services = {-1, 5, Integer.MIN_VALUE, Integer.MAX_VALUE};
    for (int service : services) due("percentile: service " + service, x.percentile(service, 500), OUTSIDE);
    int[] thousandths = {-1, 1001, Integer.MIN_VALUE, Integer.MAX_VALUE};
    for (int n : thousandths) due("percentile: thousandths " + n, x.percentile(2, n), OUTSIDE);
    for (int n : thousandths) due("percentile: none, thousandths " + n, x.percentile(0, n), OUTSIDE);
    due("percentile: service 0, none for 0", x.percentile(0, 0), -1);
    due("percentile: service 0, none for 1000", x.percentile(0, 1000), -1);
    due("percentile: service 4, none", x.percentile(4, 500), -1);
    due("percentile: 0", x.percentile(2, 0), 1);
    due("percentile: 1000", x.percentile(2, 1000), 3);
  }

  private static void equalDays() {
    ExpectRows x = new ExpectRows();
    long[] days = {4, 2, 4, 2, 4};
    for (long d : days) {
      x.event(1, 0, 0, 0, 0);
      x.event(1, 9, 0, 3, d * DAY);
    }
    due("percentile: the second 2", x.percentile(3, 400), 2);
    due("percentile: the first 4", x.percentile(3, 401), 4);
    due("percentile: the last 4", x.percentile(3, 1000), 4);
  }

  // Promise 10: "1, and nothing is expected of it; 0 when it is not lost. UNKNOWN, OUTSIDE (t as for an event; ..)"

  private static ExpectRows withLost(int item, long t) {
    ExpectRows x = withRow(0);
    x.event(item, 0, 4, 0, t);
    x.tick(LAST_CLOCK);
    return x;
  }

  private static void itemsOfFound() {
    ExpectRows x = withLost(199, 7);
    int[] none = {-1, 200, Integer.MIN_VALUE, Integer.MAX_VALUE};
    for (int item : none) due("found: item " + item, x.found(item, 7), UNKNOWN);
    due("found: item 0, no event", x.found(0, 7), 0);
    due("found: item 0, no event, t -1", x.found(0, -1), OUTSIDE);
    due("found: item 0, no event, t 1000000001", x.found(0, LAST_EVENT + 1), OUTSIDE);
    due("found: item 0 is as it was", x.state(0), -1);
    due("found: item 199 is lost yet", x.state(199), 200);
    due("found: item 199", x.found(199, 7), 1);
  }

  private static void timesOfFound() {
    ExpectRows x = withLost(3, 7);
    long[] wrongs = {-1, 6, LAST_EVENT + 1, 1L << 32, Long.MIN_VALUE, Long.MAX_VALUE};
    for (long t : wrongs) {
      due("found: t " + t, x.found(3, t), OUTSIDE);
      due("found: lost yet", x.state(3), 200);
    }
    due("found: t of the last event", x.found(3, 7), 1);
    due("found: t 1000000000", withLost(3, 7).found(3, LAST_EVENT), 1);
    due("found: t 0", withLost(3, 0).found(3, 0), 1);
    due("found: t 1000000000, event too", withLost(3, LAST_EVENT).found(3, LAST_EVENT), 1);
    due("found: one below it", withLost(3, LAST_EVENT).found(3, LAST_EVENT - 1), OUTSIDE);
  }

  private static void foundIsTheTimeOfTheLastEvent() {
    ExpectRows x = withLost(3, 7);
    due("found: 1", x.found(3, 50), 1);
    due("found: an event below it", x.event(3, 0, 4, 0, 49), OUTSIDE);
    due("found: found below it", x.found(3, 49), OUTSIDE);
    due("found: an event at it", x.event(3, 0, 4, 0, 50), 1);
    due("found: late and lost anew", x.tick(LAST_CLOCK), 2);
    due("found: at the last second", x.found(3, LAST_EVENT), 1);
    due("found: no event one below", x.event(3, 9, 4, 0, LAST_EVENT - 1), OUTSIDE);
    due("found: delivery at it", x.event(3, 9, 4, 0, LAST_EVENT), 0);
    due("found: days from the first event on", x.percentile(0, 0), 11574);
    due("found: both counted late", x.cluster(0, 0), -1);
    due("found: two of two", x.share(4, 0), 1);
  }

  private static void onlyTheLostAreFound() {
    ExpectRows x = withRow(0);
    x.event(3, 0, 4, 0, 7);
    due("found: not late", x.found(3, 7), 0);
    x.tick(8);
    due("found: late", x.found(3, 7), 0);
    x.tick(7 + LOST);
    due("found: late, 864000 seconds behind", x.found(3, 7), 0);
    due("found: it is late yet", x.state(3), 100);
    x.tick(8 + LOST);
    due("found: a second more", x.found(3, 7), 1);
    due("found: neither late nor lost", x.state(3), 0);
    due("found: not twice", x.found(3, 7), 0);
    due("found: nothing is expected", x.tick(LAST_CLOCK), 0);
    due("found: two alarms stay", x.alarm(1, 1), 2);
    due("found: no third", x.alarm(2, 1), -1);
  }

  // "0 when it is not lost": what answers 0 leaves the item's time

  private static void notLostSetsNoTime() {
    ExpectRows x = withRow(0);
    due("found: no event yet", x.found(3, 900), 0);
    due("found: so one may come earlier", x.event(3, 0, 4, 0, 7), 1);
    due("found: not lost", x.found(3, 900), 0);
    due("found: so the next may come earlier", x.event(3, 0, 4, 0, 8), 1);
  }

  // Promise 11: "with three LATE ones at least, by their shares from the greatest on, then by places"

  private static void threeAtLeast() {
    ExpectRows x = withRow(0);
    begin(x, 0, 20, 2, 2);
    begin(x, 10, 30, 3, 100);
    due("cluster: none late yet", x.cluster(0, 0), -1);
    x.tick(100);
    due("cluster: three of a hundred", x.cluster(0, 0), 30);
    due("cluster: two of two are none", x.cluster(1, 0), -1);
    x.event(5, 0, 20, 0, 99);
    due("cluster: the third is not late yet", x.cluster(1, 0), -1);
    x.tick(100);
    due("cluster: it is", x.cluster(0, 0), 20);
    due("cluster: LATE", x.cluster(0, 1), 3);
    due("cluster: BEGUN", x.cluster(0, 2), 3);
    due("cluster: the other is behind", x.cluster(1, 0), 30);
    due("cluster: its LATE", x.cluster(1, 1), 3);
    due("cluster: its BEGUN", x.cluster(1, 2), 100);
    x.tick(100 + LOST);
    due("cluster: lost ones count once, so all of a hundred", x.cluster(1, 1), 100);
    due("cluster: of equal shares the lesser place", x.cluster(0, 0), 20);
  }

  private static void nearShares() {
    ExpectRows x = withRow(0);
    begin(x, 0, 1, 50, 101);
    begin(x, 101, 0, 49, 99);
    x.tick(100);
    due("cluster: 50 of 101 are more than 49 of 99", x.cluster(0, 0), 1);
    due("cluster: the lesser share behind", x.cluster(1, 0), 0);
    ExpectRows y = withRow(0);
    begin(y, 0, 49, 4, 6);
    begin(y, 10, 0, 6, 9);
    begin(y, 20, 25, 8, 12);
    y.tick(100);
    due("cluster: equal shares, place 0", y.cluster(0, 0), 0);
    due("cluster: equal shares, place 25", y.cluster(1, 0), 25);
    due("cluster: equal shares, place 49", y.cluster(2, 0), 49);
    due("cluster: uncut LATE", y.cluster(1, 1), 8);
    due("cluster: uncut BEGUN", y.cluster(1, 2), 12);
  }

  private static void clustersBetweenTheEnds() {
    ExpectRows x = withRow(0);
    for (int place = 0; place < 50; place++) begin(x, 4 * place, place, 3, 3);
    x.tick(100);
    for (int i = 0; i < 50; i++) due("cluster: the " + i + "th of 50", x.cluster(i, 0), i);
    int[] none = {-1, 50, Integer.MIN_VALUE, Integer.MAX_VALUE};
    for (int i : none) due("cluster: i " + i, x.cluster(i, 0), -1);
    int[] wrongs = {-1, 3, Integer.MIN_VALUE, Integer.MAX_VALUE};
    for (int what : wrongs) due("cluster: what " + what, x.cluster(0, what), -1);
  }

  // Promise 12: "in the order in which they first did; 0 when there is none such"

  private static void fortyFail() {
    ExpectRows x = new ExpectRows();
    for (int p = 0; p < 40; p++) x.rule(0, p, -1, 0, true);
    due("failing: rows alone have not failed", x.failing(0), 0);
    for (int p = 39; p >= 0; p--) due("failing: minus the row", x.event(0, 0, p, 0, 0), -(p + 1));
    for (int p = 0; p < 40; p++) x.event(0, 0, p, 0, 0);
    for (int i = 0; i < 40; i++) due("failing: the " + i + "th of 40", x.failing(i), 40 - i);
    int[] none = {-1, 40, Integer.MIN_VALUE, Integer.MAX_VALUE};
    for (int i : none) due("failing: i " + i, x.failing(i), 0);
  }

  private static void refusedEventsDoNotFail() {
    ExpectRows x = withFailingRow();
    due("failing: refused by its time", x.event(0, 0, 0, 0, -1), OUTSIDE);
    due("failing: by its service", x.event(0, 0, 0, 5, 0), OUTSIDE);
    due("failing: by its place", x.event(0, 0, 50, 0, 0), UNKNOWN);
    due("failing: by its item", x.event(200, 0, 0, 0, 0), UNKNOWN);
    due("failing: none did", x.failing(0), 0);
    due("failing: it does", x.event(0, 0, 0, 0, 0), -1);
    due("failing: now", x.failing(0), 1);
  }

  private static void rowsOfTheDocument() {
    theFortiethRow();
    refusedRowsTakeNoNumber();
    statesOfRows();
    placesOfRows();
    servicesOfRows();
    timesOfRows();
    theFirstRowAlone();
    rowsAreForEventsToCome();
  }

  private static void eventsOfTheDocument() {
    itemsOfEvents();
    placesOfEvents();
    statesOfEvents();
    servicesOfEvents();
    timesOfEvents();
    timesDoNotFall();
    refusedEventsSetNoTime();
    everyEventEnds();
    lateAndLostEnd();
    whatFailsExpectsNothing();
    daysAreCut();
    holidaysAreDaysToDelivery();
    asForANewOne();
  }

  private static void clockOfTheDocument() {
    dayZero();
    theFirstTimeFromTheEventOn();
    allHolidaysInARow();
    theLatestOfAllGetsLateAndLost();
    theHundredthHoliday();
    daysOfHolidays();
    theClocksEnds();
    lateThenLost();
    lateAloneOrBoth();
    onlyTheClockMakesLate();
    theFourHundredthAlarm();
    alarmsBetweenTheEnds();
    itemsOfStates();
    hundredsOfStates();
  }

  private static void answersOfTheDocument() {
    countsAtThePlaceOfTheBegin();
    theFirstRefusalOfSeveral();
    sharesBetweenTheEnds();
    placesAndSidesOfShares();
    ranks();
    servicesAndThousandths();
    equalDays();
    itemsOfFound();
    timesOfFound();
    foundIsTheTimeOfTheLastEvent();
    onlyTheLostAreFound();
    notLostSetsNoTime();
    threeAtLeast();
    nearShares();
    clustersBetweenTheEnds();
    fortyFail();
    refusedEventsDoNotFail();
  }

  public static void main(String[] args) {
    the512thCallOfDeliveries();
    the512thCallOfEvents();
    rowsOfTheDocument();
    eventsOfTheDocument();
    clockOfTheDocument();
    answersOfTheDocument();
    System.out.println(wrong == 0 ? "all answers are as due" : wrong + " answers are not as due");
    if (wrong != 0) System.exit(1);
  }
}
