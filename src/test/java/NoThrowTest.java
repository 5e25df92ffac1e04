import java.util.Random;

// No call throws by itself, whatever its arguments, and behind the 512th call too, where the
// answers are free; share alone throws, and that by its own hand.
public final class NoThrowTest {
  private static final int RUNS = 40;
  private static final int CALLS = 20000;
  private static final int[] INTS = {Integer.MIN_VALUE, -101, -2, -1, 0, 1, 2, 3, 4, 5, 8, 9, 10, 39, 40, 49, 50, 199, 200, 399, 400, 512, 1000, 1001,
    Integer.MAX_VALUE};
  private static final long[] LONGS = {Long.MIN_VALUE, Integer.MIN_VALUE, -1, 0, 1, 86399, 86400, 864000, 864001, 10000000, 10000001, 1000000000,
    1000000001, 2000000000, 2000000001, 1L << 32, Long.MAX_VALUE};

  private final Random random;
  private final ExpectRows x = new ExpectRows();
  private final boolean tame;
  private long clock = 0;

  private NoThrowTest(int seed) {
    random = new Random(seed);
    tame = seed % 2 == 0;
  }

  /** Tame runs get far into the lists; wild ones try what is outside. */
  private int number(int bound) {
    return tame && random.nextInt(20) != 0 ? random.nextInt(bound) : INTS[random.nextInt(INTS.length)];
  }

  private long time(long bound) {
    return tame && random.nextInt(20) != 0 ? (long) (random.nextDouble() * bound) : LONGS[random.nextInt(LONGS.length)];
  }

  private long nextClock() {
    if (!tame) return LONGS[random.nextInt(LONGS.length)];
    clock += random.nextInt(300000);
    return clock;
  }

  private void call() {
    switch (random.nextInt(14)) {
      case 0: x.rule(number(9), number(50), number(5), time(10000), random.nextBoolean()); break;
      case 1: x.tick(nextClock()); break;
      case 2: x.alarm(number(400), number(5)); break;
      case 3: x.state(number(200)); break;
      case 4: x.holiday(time(20000)); break;
      case 5: share(number(50), number(2)); break;
      case 6: x.percentile(number(5), number(1001)); break;
      case 7: x.found(number(200), time(1000000000L)); break;
      case 8: x.cluster(number(50), number(3)); break;
      case 9: x.failing(number(40)); break;
      case 10: x.event(number(200), 9, number(50), number(5), 1000000000L); break;
      default: x.event(number(200), number(9), number(50), number(5), clock); break;
    }
  }

  private void share(int place, int side) {
    try {
      x.share(place, side);
    } catch (ArithmeticException e) {
      if (String.valueOf(e.getMessage()).contains("by zero")) throw new IllegalStateException("the machine divided by zero in share");
    }
  }

  public static void main(String[] args) {
    int wrong = 0;
    for (int seed = 0; seed < RUNS; seed++) {
      NoThrowTest run = new NoThrowTest(seed);
      for (int n = 0; n < CALLS; n++) {
        try {
          run.call();
        } catch (RuntimeException e) {
          wrong++;
          System.out.println("run " + seed + ", call " + n + ": threw " + e);
          break;
        }
      }
    }
    System.out.println(wrong == 0 ? "nothing was thrown" : wrong + " runs threw");
    if (wrong != 0) System.exit(1);
  }
}
