import java.util.Random;
import java.util.TreeSet;

// "it is due at the first time from the event's on before which so many seconds that are on
// none lie since the event": every second is looked at, one by one.
public final class DueTest {
  private static final long DAY = 86400L;
  private static final int CASES = 600;

  private static long bySeconds(TreeSet<Long> holidays, long within, long t) {
    long at = t;
    long seen = 0;
    while (seen < within) {
      if (!holidays.contains(at / DAY)) seen++;
      at++;
    }
    return at;
  }

  private static long byClass(TreeSet<Long> holidays, boolean falling, long within, long t) {
    ExpectRows x = new ExpectRows();
    x.rule(0, -1, -1, within, false);
    for (long day : falling ? holidays.descendingSet() : holidays) x.holiday(day);
    x.event(0, 0, 0, 0, t);
    x.tick(2000000000L);
    return x.alarm(0, 4);
  }

  public static void main(String[] args) {
    Random random = new Random(8);
    int wrong = 0;
    for (int n = 0; n < CASES; n++) {
      long first = n % 3 == 0 ? 0 : random.nextInt(11570);
      TreeSet<Long> holidays = new TreeSet<>();
      for (int k = random.nextInt(9); k > 0; k--) holidays.add(first + random.nextInt(10));
      // Beside a day's begin and end is where one second more or less shows.
      long t = (first + random.nextInt(3)) * DAY + (n % 2 == 0 ? random.nextInt(3) : random.nextInt((int) DAY));
      long within = n % 5 == 0 ? random.nextInt(200000) : Math.max(0, random.nextInt(4) * DAY + random.nextInt(5) - 2);
      long got = byClass(holidays, n % 4 < 2, within, t);
      long want = bySeconds(holidays, within, t);
      if (got == want) continue;
      wrong++;
      System.out.println("holidays " + holidays + ", within " + within + ", event at " + t + ": due at " + got + ", due is " + want);
    }
    System.out.println(wrong == 0 ? "all times are as due" : wrong + " times are not as due");
    if (wrong != 0) System.exit(1);
  }
}
