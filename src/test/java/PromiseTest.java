// The document's promises 1 to 12, each with ordinary inputs, its edges and wrong inputs.
public final class PromiseTest {
  private static final int UNKNOWN = -101, OUTSIDE = -102, ROOM = -104;
  private static final long DAY = 86400L;
  private static int wrong = 0;

  private static void due(String call, long got, long want) {
    if (got != want) {
      wrong++;
      System.out.println(call + " answered " + got + ", due is " + want);
    }
  }

  private static void dueThrow(String call, ExpectRows x, int place, int side) {
    boolean thrown = false;
    try {
      x.share(place, side);
    } catch (ArithmeticException e) {
      thrown = true;
    }
    if (!thrown) {
      wrong++;
      System.out.println(call + " did not throw ArithmeticException");
    }
  }

  /** One row for state 0 anywhere, due within so many seconds. */
  private static ExpectRows withRow(long within) {
    ExpectRows x = new ExpectRows();
    x.rule(0, -1, -1, within, false);
    return x;
  }

  /** So many expectations are begun at a place, and so many of them become late by tick(at). */
  private static void lateAt(ExpectRows x, int fromItem, int place, int late, int begun, long at) {
    for (int i = 0; i < begun; i++) x.event(fromItem + i, 0, place, 0, i < late ? at - 10 : at);
  }

  private static void promise1NewObject() {
    ExpectRows x = new ExpectRows();
    due("1: UNKNOWN", ExpectRows.UNKNOWN, UNKNOWN);
    due("1: OUTSIDE", ExpectRows.OUTSIDE, OUTSIDE);
    due("1: ROOM", ExpectRows.ROOM, ROOM);
    for (int i = 0; i < 200; i++) due("1: state", x.state(i), -1);
    due("1: no row", x.event(0, 0, 0, 0, 5), 0);
    due("1: no alarm", x.alarm(0, 0), -1);
    due("1: no cluster", x.cluster(0, 0), -1);
    due("1: no failing", x.failing(0), 0);
    for (int s = 0; s < 5; s++) due("1: no delivery", x.percentile(s, 500), -1);
    for (int p = 0; p < 50; p++) dueThrow("1: share", x, p, 0);
    due("1: clock is 0", x.tick(0), 0);
    due("1: first row", x.rule(0, -1, -1, 3 * DAY, false), 1);
    due("1: expects", x.event(1, 0, 0, 0, 0), 1);
    due("1: no holidays, not yet", x.tick(3 * DAY), 0);
    due("1: no holidays, late", x.tick(3 * DAY + 1), 1);
    ExpectRows other = new ExpectRows();
    due("1: objects share nothing", other.event(1, 0, 0, 0, 0), 0);
    due("1: nor the clock", other.tick(1), 0);
  }

  private static void promise2Rule() {
    ExpectRows x = new ExpectRows();
    due("2: state -1", x.rule(-1, 0, 0, 0, false), OUTSIDE);
    due("2: state 9", x.rule(9, 0, 0, 0, false), OUTSIDE);
    due("2: place -2", x.rule(0, -2, 0, 0, false), OUTSIDE);
    due("2: place 50", x.rule(0, 50, 0, 0, false), OUTSIDE);
    due("2: service -2", x.rule(0, 0, -2, 0, false), OUTSIDE);
    due("2: service 5", x.rule(0, 0, 5, 0, false), OUTSIDE);
    due("2: within -1", x.rule(0, 0, 0, -1, false), OUTSIDE);
    due("2: within 10000001", x.rule(0, 0, 0, 10000001L, true), OUTSIDE);
    due("2: within wraps no int", x.rule(0, 0, 0, 1L << 32, false), OUTSIDE);
    due("2: least", x.rule(0, -1, -1, 0, false), 1);
    due("2: greatest", x.rule(8, 49, 4, 10000000L, true), 2);
    due("2: the same again", x.rule(8, 49, 4, 10000000L, true), 3);
    for (int n = 4; n <= 40; n++) due("2: number", x.rule(1, 0, 0, 5, false), n);
    due("2: room", x.rule(1, 0, 0, 5, false), ROOM);
    due("2: outside before room", x.rule(9, 0, 0, 5, false), OUTSIDE);
    due("2: still room", x.rule(0, -1, -1, 0, false), ROOM);
    due("2: refused rows are none", x.event(0, 2, 0, 0, 0), 0);
  }

  private static void promise3EventRefused() {
    ExpectRows x = withRow(100);
    due("3: item -1", x.event(-1, 0, 0, 0, 0), UNKNOWN);
    due("3: item 200", x.event(200, 99, 0, 99, -1), UNKNOWN);
    due("3: place -1", x.event(0, 0, -1, 0, 0), UNKNOWN);
    due("3: place 50", x.event(0, 99, 50, 99, -1), UNKNOWN);
    due("3: state -1", x.event(0, -1, 0, 0, 0), OUTSIDE);
    due("3: state 10", x.event(0, 10, 0, 0, 0), OUTSIDE);
    due("3: service -1", x.event(0, 0, 0, -1, 0), OUTSIDE);
    due("3: service 5", x.event(0, 0, 0, 5, 0), OUTSIDE);
    due("3: t -1", x.event(0, 0, 0, 0, -1), OUTSIDE);
    due("3: t 1000000001", x.event(0, 0, 0, 0, 1000000001L), OUTSIDE);
    due("3: t least", x.event(0, 0, 0, 0, Long.MIN_VALUE), OUTSIDE);
    due("3: t greatest", x.event(0, 0, 0, 0, Long.MAX_VALUE), OUTSIDE);
    due("3: nothing came", x.state(0), -1);
    due("3: last of all", x.event(199, 0, 49, 4, 1000000000L), 1);
    due("3: first of all", x.event(0, 0, 0, 0, 0), 1);
    due("3: later", x.event(0, 8, 0, 0, 50), 0);
    due("3: time falls", x.event(0, 0, 0, 0, 49), OUTSIDE);
    due("3: delivery's time falls", x.event(0, 9, 0, 0, 49), OUTSIDE);
    due("3: refused changes nothing", x.state(0), 8);
    due("3: same time", x.event(0, 0, 0, 0, 50), 1);
    due("3: another item", x.event(1, 0, 0, 0, 3), 1);
    x.tick(1000);
    due("3: before the clock", x.event(1, 0, 0, 0, 4), 1);
    due("3: a refused one ends nothing", x.event(1, 0, 0, 0, 3), OUTSIDE);
    due("3: so it is late", x.tick(1000), 1);
  }

  private static void promise3EventRows() {
    ExpectRows x = new ExpectRows();
    x.rule(0, 5, 2, 10, false);
    x.rule(0, 5, -1, 10, true);
    x.rule(0, -1, 3, 10, false);
    x.rule(0, -1, -1, 10, true);
    x.rule(0, 5, 2, 10, true);
    x.rule(3, -1, -1, 10, false);
    due("3: place and service", x.event(0, 0, 5, 2, 0), 1);
    due("3: place, any service", x.event(0, 0, 5, 3, 0), -2);
    due("3: any place, service", x.event(0, 0, 6, 3, 0), 3);
    due("3: any", x.event(0, 0, 6, 2, 0), -4);
    due("3: other state", x.event(0, 3, 6, 2, 0), 6);
    due("3: none", x.event(0, 4, 6, 2, 0), 0);
    due("3: what was expected ended", x.tick(1000000), 0);
    dueThrow("3: a failed one is not begun", withFailing(), 5, 0);
    due("3: delivery", x.event(0, 9, 6, 2, 0), 0);
    due("3: none for 9", x.event(1, 9, 6, 2, 0), 0);
    due("3: as a new one", x.state(1), -1);
  }

  private static ExpectRows withFailing() {
    ExpectRows x = new ExpectRows();
    x.rule(0, -1, -1, 0, true);
    x.event(0, 0, 5, 0, 0);
    return x;
  }

  private static void promise3Delivery() {
    ExpectRows x = withRow(100);
    x.event(0, 0, 1, 0, 5000);
    x.event(0, 9, 1, 0, 6000);
    due("3: delivery ends", x.tick(900000), 0);
    due("3: times begin anew", x.event(0, 0, 1, 0, 10), 1);
    due("3: and do not fall", x.event(0, 0, 1, 0, 9), OUTSIDE);
    due("3: delivered again", x.event(0, 9, 1, 0, 10 + DAY), 0);
    due("3: days from the new first event", x.percentile(0, 1000), 1);
    due("3: of two", x.percentile(0, 500), 0);
  }

  private static void promise4Tick() {
    ExpectRows x = withRow(100);
    due("4: below 0", x.tick(-1), OUTSIDE);
    due("4: above", x.tick(2000000001L), OUTSIDE);
    due("4: far above", x.tick(Long.MAX_VALUE), OUTSIDE);
    due("4: far below", x.tick(Long.MIN_VALUE), OUTSIDE);
    x.event(7, 0, 3, 0, 1000);
    x.event(2, 0, 3, 0, 1000);
    due("4: at the due time", x.tick(1100), 0);
    due("4: refused", x.tick(1099), OUTSIDE);
    due("4: behind it", x.tick(1101), 2);
    due("4: told once", x.tick(1101), 0);
    due("4: in the items' order", x.alarm(0, 0), 2);
    due("4: the next", x.alarm(1, 0), 7);
    x.event(2, 0, 3, 0, 1000);
    due("4: a new expectation is told anew", x.tick(1101), 1);
    due("4: not lost yet", x.tick(865100), 0);
    due("4: lost", x.tick(865101), 2);
    due("4: lost once", x.tick(2000000000L), 0);
    due("4: the clock stands", x.tick(1999999999L), OUTSIDE);
    x.event(2, 0, 3, 0, 1000);
    due("4: late and lost at once", x.tick(2000000000L), 2);
    due("4: kind 1 first", x.alarm(5, 1), 1);
    due("4: kind 2 behind", x.alarm(6, 1), 2);
  }

  private static void promise4BothByItem() {
    ExpectRows x = withRow(0);
    x.event(9, 0, 3, 0, 0);
    x.event(8, 0, 4, 0, 0);
    due("4: all", x.tick(864001), 4);
    int[] items = {8, 8, 9, 9};
    int[] kinds = {1, 2, 1, 2};
    for (int i = 0; i < 4; i++) {
      due("4: item of " + i, x.alarm(i, 0), items[i]);
      due("4: kind of " + i, x.alarm(i, 1), kinds[i]);
    }
  }

  private static void promise5Alarm() {
    ExpectRows x = withRow(100);
    x.rule(1, -1, -1, 10000000L, false);
    x.event(5, 1, 49, 4, 1000000000L);
    x.event(199, 0, 48, 4, 7);
    due("5: told", x.tick(2000000000L), 4);
    long[][] want = {{5, 1, 2, 49, 1010000000L}, {5, 2, 2, 49, 1010000000L}, {199, 1, 1, 48, 107}, {199, 2, 1, 48, 107}};
    for (int i = 0; i < want.length; i++)
      for (int what = 0; what < 5; what++) due("5: alarm(" + i + ", " + what + ")", x.alarm(i, what), want[i][what]);
    due("5: what -1", x.alarm(0, -1), -1);
    due("5: what 5", x.alarm(0, 5), -1);
    due("5: i -1", x.alarm(-1, 0), -1);
    due("5: i 4", x.alarm(4, 0), -1);
    due("5: i least", x.alarm(Integer.MIN_VALUE, 0), -1);
    due("5: i greatest", x.alarm(Integer.MAX_VALUE, 0), -1);
    x.event(5, 2, 1, 1, 1000000000L);
    due("5: stays as it was told", x.alarm(0, 3), 49);
  }

  private static void promise5First400() {
    ExpectRows x = withRow(0);
    for (int i = 0; i < 200; i++) x.event(i, 0, 1, 0, 0);
    due("5: 400 at once", x.tick(900000), 400);
    due("5: the 400th's item", x.alarm(399, 0), 199);
    due("5: the 400th's kind", x.alarm(399, 1), 2);
    for (int i = 0; i < 3; i++) x.event(i, 0, 2, 0, 0);
    due("5: those behind are not told", x.tick(900000), 0);
    due("5: no 401st", x.alarm(400, 0), -1);
    due("5: but the item is lost", x.state(0), 200);
    due("5: and late ones count", x.share(2, 0), 1);
    due("5: in clusters too", x.cluster(1, 0), 2);
  }

  private static void promise6State() {
    ExpectRows x = withRow(100);
    due("6: -1", x.state(-1), UNKNOWN);
    due("6: 200", x.state(200), UNKNOWN);
    due("6: none", x.state(199), -1);
    for (int s = 0; s < 9; s++) {
      x.event(199, s, 0, 0, s);
      due("6: state " + s, x.state(199), s);
    }
    x.rule(8, -1, -1, 0, false);
    x.event(3, 8, 0, 0, 50);
    x.tick(50);
    due("6: not late", x.state(3), 8);
    x.tick(51);
    due("6: late", x.state(3), 108);
    x.tick(864051);
    due("6: lost", x.state(3), 208);
    x.event(3, 8, 0, 0, 50);
    due("6: ends with it", x.state(3), 8);
    x.tick(864051);
    due("6: lost again", x.state(3), 208);
    x.event(3, 9, 0, 0, 50);
    due("6: delivered", x.state(3), -1);
  }

  private static void promise7Holiday() {
    ExpectRows x = new ExpectRows();
    due("7: -1", x.holiday(-1), OUTSIDE);
    due("7: 20001", x.holiday(20001), OUTSIDE);
    due("7: wraps no int", x.holiday(1L << 32), OUTSIDE);
    due("7: first", x.holiday(0), 1);
    due("7: again", x.holiday(0), 0);
    due("7: last", x.holiday(20000), 1);
    for (int d = 99; d >= 2; d--) due("7: day", x.holiday(d), 1);
    due("7: room", x.holiday(1), ROOM);
    due("7: one that was needs no room", x.holiday(50), 0);
    due("7: outside before room", x.holiday(20001), OUTSIDE);
    due("7: still room", x.holiday(1), ROOM);
    x.rule(0, -1, -1, DAY + 1, false);
    x.event(0, 0, 0, 0, 0);
    due("7: behind all", dueOf(x), 100 * DAY + 1);
  }

  /** When the first alarm's expectation was due. */
  private static long dueOf(ExpectRows x) {
    x.tick(2000000000L);
    return x.alarm(0, 4);
  }

  private static long dueWith(long[] holidays, long within, long t) {
    ExpectRows x = withRow(within);
    for (long day : holidays) x.holiday(day);
    x.event(0, 0, 0, 0, t);
    return dueOf(x);
  }

  private static void promise7Due() {
    due("7: no holiday", dueWith(new long[] {}, 5, 7), 12);
    due("7: up to the holiday's begin", dueWith(new long[] {1}, DAY, 0), DAY);
    due("7: over the holiday", dueWith(new long[] {1}, DAY + 1, 0), 2 * DAY + 1);
    due("7: event on a holiday", dueWith(new long[] {1}, 5, DAY + 100), 2 * DAY + 5);
    due("7: at a holiday's begin", dueWith(new long[] {1}, 5, DAY), 2 * DAY + 5);
    due("7: at a holiday's last second", dueWith(new long[] {1}, 5, 2 * DAY - 1), 2 * DAY + 5);
    due("7: at a holiday's end", dueWith(new long[] {1}, 5, 2 * DAY), 2 * DAY + 5);
    due("7: within 0 on a holiday", dueWith(new long[] {1}, 0, DAY + 100), DAY + 100);
    due("7: within 0 at its begin", dueWith(new long[] {1}, 0, DAY), DAY);
    due("7: two, the later one told first", dueWith(new long[] {3, 2, 1}, DAY, 10), 4 * DAY + 10);
    due("7: one between", dueWith(new long[] {3, 1}, 2 * DAY, 10), 4 * DAY + 10);
    due("7: reached by another alone", dueWith(new long[] {2, 1}, DAY, 10), 3 * DAY + 10);
    due("7: before the event", dueWith(new long[] {0, 1}, 10, 2 * DAY), 2 * DAY + 10);
    due("7: late in time", dueWith(new long[] {11574}, 10000000L, 1000000000L), 1010000000L + 11575 * DAY - 1000000000L);
    ExpectRows x = withRow(DAY);
    x.event(0, 0, 0, 0, 10);
    x.holiday(0);
    x.holiday(1);
    due("7: for events to come alone", dueOf(x), DAY + 10);
  }

  private static void promise8Share() {
    ExpectRows x = withRow(0);
    due("8: place -1", x.share(-1, 0), UNKNOWN);
    due("8: place 50", x.share(50, 7), UNKNOWN);
    due("8: side -1", x.share(0, -1), OUTSIDE);
    due("8: side 2", x.share(0, 2), OUTSIDE);
    dueThrow("8: none, above", x, 0, 0);
    dueThrow("8: none, below", x, 49, 1);
    lateAt(x, 0, 49, 4, 6, 100);
    lateAt(x, 10, 0, 0, 5, 100);
    lateAt(x, 20, 1, 5, 5, 100);
    lateAt(x, 30, 2, 3, 7, 100);
    due("8: before the clock, above", x.share(49, 0), 0);
    due("8: before the clock, below", x.share(49, 1), 1);
    x.tick(100);
    long[][] want = {{49, 2, 3}, {0, 0, 1}, {1, 1, 1}, {2, 3, 7}};
    for (long[] w : want) {
      due("8: above at " + w[0], x.share((int) w[0], 0), w[1]);
      due("8: below at " + w[0], x.share((int) w[0], 1), w[2]);
    }
    x.event(30, 0, 3, 0, 200);
    due("8: a late one stays in the count", x.share(2, 0), 3);
    x.tick(1000000);
    due("8: lost is not late twice", x.share(2, 0), 1);
    due("8: counts where it was begun", x.share(3, 0), 1);
  }

  private static void deliver(ExpectRows x, int service, long days) {
    x.event(0, 1, 0, (service + 1) % 5, 100);
    x.event(0, 9, 0, service, 100 + days * DAY + (days % 2 == 0 ? 0 : DAY - 1));
  }

  private static void promise9Percentile() {
    ExpectRows x = new ExpectRows();
    due("9: service -1", x.percentile(-1, 0), OUTSIDE);
    due("9: service 5", x.percentile(5, 0), OUTSIDE);
    due("9: thousandths -1", x.percentile(0, -1), OUTSIDE);
    due("9: thousandths 1001", x.percentile(0, 1001), OUTSIDE);
    due("9: none", x.percentile(0, 0), -1);
    due("9: none at 1000", x.percentile(4, 1000), -1);
    long[] days = {7, 3, 9, 1, 3};
    for (long d : days) deliver(x, 4, d);
    deliver(x, 3, 5);
    int[][] want = {{0, 1}, {1, 1}, {200, 1}, {201, 3}, {400, 3}, {600, 3}, {601, 7}, {800, 7}, {801, 9}, {1000, 9}};
    for (int[] w : want) due("9: percentile(4, " + w[0] + ")", x.percentile(4, w[0]), w[1]);
    due("9: by the delivery's service", x.percentile(3, 500), 5);
    due("9: not by the first event's", x.percentile(0, 500), -1);
    x.event(9, 9, 0, 0, 999999999L);
    due("9: delivery as the first event", x.percentile(0, 500), 0);
    x.event(9, 0, 0, 0, 0);
    x.event(9, 1, 0, 0, 500000000L);
    x.event(9, 9, 0, 0, 1000000000L);
    due("9: longest", x.percentile(0, 1000), 11574);
  }

  private static void promise9Many() {
    ExpectRows x = new ExpectRows();
    for (int i = 0; i < 500; i++) x.event(i % 200, 9, 0, 0, 1000);
    x.event(0, 0, 0, 0, 0);
    x.event(0, 9, 0, 0, DAY);
    due("9: 501, the rank of 998", x.percentile(0, 998), 0);
    due("9: 501, the rank of 999", x.percentile(0, 999), 1);
  }

  private static void promise10Found() {
    ExpectRows x = withRow(100);
    due("10: item -1", x.found(-1, 0), UNKNOWN);
    due("10: item 200", x.found(200, -1), UNKNOWN);
    due("10: t -1", x.found(0, -1), OUTSIDE);
    due("10: t above", x.found(0, 1000000001L), OUTSIDE);
    due("10: a new one", x.found(0, 500), 0);
    due("10: which sets no time", x.event(0, 0, 3, 0, 400), 1);
    due("10: t falls", x.found(0, 399), OUTSIDE);
    due("10: not lost", x.found(0, 450), 0);
    x.tick(501);
    due("10: late, not lost", x.found(0, 450), 0);
    x.tick(864501);
    due("10: a refused one changes nothing", x.found(0, 399), OUTSIDE);
    due("10: still lost", x.state(0), 200);
    due("10: found", x.found(0, 1000), 1);
    due("10: neither late nor lost", x.state(0), 0);
    due("10: found once", x.found(0, 1000), 0);
    due("10: nothing is expected", x.tick(1999999999L), 0);
    due("10: its time counts", x.event(0, 1, 3, 0, 999), OUTSIDE);
    due("10: for found too", x.found(0, 999), OUTSIDE);
    due("10: its late one stays in the count", x.share(3, 0), 1);
    due("10: the first event stays", x.event(0, 9, 3, 0, 400 + DAY), 0);
    due("10: so a day has passed", x.percentile(0, 0), 1);
    due("10: greatest t", x.found(0, 1000000000L), 0);
  }

  private static void promise11Cluster() {
    ExpectRows x = withRow(0);
    lateAt(x, 0, 40, 3, 4, 100);
    lateAt(x, 10, 7, 6, 8, 100);
    lateAt(x, 20, 3, 2, 2, 100);
    lateAt(x, 30, 9, 3, 5, 100);
    lateAt(x, 40, 49, 3, 3, 100);
    lateAt(x, 50, 0, 4, 6, 100);
    due("11: none late yet", x.cluster(0, 0), -1);
    x.tick(100);
    int[][] want = {{49, 3, 3}, {7, 6, 8}, {40, 3, 4}, {0, 4, 6}, {9, 3, 5}};
    for (int i = 0; i < want.length; i++)
      for (int what = 0; what < 3; what++) due("11: cluster(" + i + ", " + what + ")", x.cluster(i, what), want[i][what]);
    due("11: two are too few", x.cluster(5, 0), -1);
    due("11: i -1", x.cluster(-1, 0), -1);
    due("11: i greatest", x.cluster(Integer.MAX_VALUE, 0), -1);
    due("11: i least", x.cluster(Integer.MIN_VALUE, 0), -1);
    due("11: what -1", x.cluster(0, -1), -1);
    due("11: what 3", x.cluster(0, 3), -1);
    x.event(100, 0, 49, 0, 100);
    x.event(101, 0, 49, 0, 100);
    due("11: begun ones lessen a share", x.cluster(4, 0), 49);
    due("11: behind 9 it would stand by its place", x.cluster(3, 0), 9);
  }

  private static void promise12Failing() {
    ExpectRows x = new ExpectRows();
    for (int s = 0; s < 9; s++) x.rule(s, -1, -1, 0, s != 4);
    due("12: none", x.failing(0), 0);
    due("12: fails", x.event(0, 6, 0, 0, 0), -7);
    due("12: fails", x.event(0, 2, 0, 0, 0), -3);
    due("12: again", x.event(1, 6, 0, 0, 0), -7);
    due("12: does not fail", x.event(1, 4, 0, 0, 0), 5);
    due("12: fails", x.event(1, 0, 0, 0, 0), -1);
    due("12: refused", x.event(1, 1, 0, 0, -1), OUTSIDE);
    int[] want = {7, 3, 1, 0};
    for (int i = 0; i < want.length; i++) due("12: failing(" + i + ")", x.failing(i), want[i]);
    due("12: i -1", x.failing(-1), 0);
    due("12: i least", x.failing(Integer.MIN_VALUE), 0);
    due("12: i greatest", x.failing(Integer.MAX_VALUE), 0);
    due("12: nothing is expected", x.tick(1000000), 0);
    due("12: the state is the event's", x.state(1), 0);
  }

  private static void promise12All40() {
    ExpectRows x = new ExpectRows();
    for (int p = 0; p < 40; p++) x.rule(0, p, -1, 0, true);
    for (int p = 39; p >= 0; p--) x.event(0, 0, p, 0, 0);
    for (int i = 0; i < 40; i++) due("12: the " + i + "th of 40", x.failing(i), 40 - i);
    due("12: no 41st", x.failing(40), 0);
  }

  public static void main(String[] args) {
    promise1NewObject();
    promise2Rule();
    promise3EventRefused();
    promise3EventRows();
    promise3Delivery();
    promise4Tick();
    promise4BothByItem();
    promise5Alarm();
    promise5First400();
    promise6State();
    promise7Holiday();
    promise7Due();
    promise8Share();
    promise9Percentile();
    promise9Many();
    promise10Found();
    promise11Cluster();
    promise12Failing();
    promise12All40();
    System.out.println(wrong == 0 ? "all answers are as due" : wrong + " answers are not as due");
    if (wrong != 0) System.exit(1);
  }
}
