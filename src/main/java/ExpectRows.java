import java.util.ArrayList;

/** Tells what must come next of items, and which of them are late or lost. */
public final class ExpectRows {
    public static final int UNKNOWN = -101, OUTSIDE = -102, ROOM = -104;

    private static final int ITEMS = 200;
    private static final int PLACES = 50;
    private static final int SERVICES = 5;
    private static final int DELIVERY = 9;
    private static final int ANY = -1;
    private static final int NONE = -1;

    private static final int MOST_ROWS = 40;
    private static final int MOST_ALARMS = 400;
    private static final int MOST_HOLIDAYS = 100;
    /** An object is used for 512 calls at most, so no more deliveries can come. */
    private static final int MOST_DELIVERIES = 512;

    private static final long DAY = 86400L;
    private static final long LOST_AFTER = 864000L;
    private static final long LAST_WITHIN = 10000000L;
    private static final long LAST_EVENT = 1000000000L;
    private static final long LAST_CLOCK = 2000000000L;
    private static final long LAST_HOLIDAY = 20000L;
    private static final int THOUSAND = 1000;
    private static final int CLUSTER_FROM = 3;

    private static final int KIND_LATE = 1;
    private static final int KIND_LOST = 2;

    private final RowList rows = new RowList();
    private final HolidayList holidays = new HolidayList();
    private final AlarmList alarms = new AlarmList();
    private final PlaceCounts counts = new PlaceCounts();
    private final DeliveryList deliveries = new DeliveryList();
    private final Item[] items = new Item[ITEMS];
    private long clock = 0L;

    public ExpectRows() {
        for (int i = 0; i < ITEMS; i++) {
            items[i] = new Item();
        }
    }

    public int rule(int state, int place, int service, long within, boolean fails) {
        if (state < 0 || state >= DELIVERY) {
            return OUTSIDE;
        }
        if (place != ANY && !isPlace(place)) {
            return OUTSIDE;
        }
        if (service != ANY && !isService(service)) {
            return OUTSIDE;
        }
        if (within < 0L || within > LAST_WITHIN) {
            return OUTSIDE;
        }
        return rows.addRow(state, place, service, within, fails);
    }

    public int event(int item, int state, int place, int service, long t) {
        if (!isItem(item) || !isPlace(place)) {
            return UNKNOWN;
        }
        Item it = items[item];
        if (state < 0 || state > DELIVERY || !isService(service) || !it.mayComeAt(t)) {
            return OUTSIDE;
        }
        it.expectNothing();
        if (state == DELIVERY) {
            deliveries.addDelivery(service, it.daysUntil(t));
            it.beginAnew();
            return 0;
        }
        it.takeEvent(state, t);
        return expectNext(it, rows.firstFor(state, place, service), place, t);
    }

    public int tick(long t) {
        if (t < clock || t > LAST_CLOCK) {
            return OUTSIDE;
        }
        clock = t;
        int before = alarms.size();
        for (int i = 0; i < ITEMS; i++) {
            tellLate(i, items[i]);
            tellLost(i, items[i]);
        }
        return alarms.size() - before;
    }

    public int alarm(int i, int what) {
        return alarms.partOf(i, what);
    }

    public int state(int item) {
        if (!isItem(item)) {
            return UNKNOWN;
        }
        return items[item].toldState();
    }

    public int holiday(long day) {
        if (day < 0L || day > LAST_HOLIDAY) {
            return OUTSIDE;
        }
        return holidays.addDay(day);
    }

    public long share(int place, int side) throws ArithmeticException {
        if (!isPlace(place)) {
            return UNKNOWN;
        }
        if (side != 0 && side != 1) {
            return OUTSIDE;
        }
        int late = counts.lateAt(place);
        int begun = counts.begunAt(place);
        if (begun <= 0) {
            throw new ArithmeticException("no expectation was begun at this place");
        }
        int divisor = commonDivisor(late, begun);
        return side == 0 ? late / divisor : begun / divisor;
    }

    public long percentile(int service, int thousandths) {
        if (!isService(service) || thousandths < 0 || thousandths > THOUSAND) {
            return OUTSIDE;
        }
        int all = deliveries.countOf(service);
        int rank = (all * thousandths + THOUSAND - 1) / THOUSAND;
        return deliveries.daysAtRank(service, Math.max(rank, 1));
    }

    public int found(int item, long t) {
        if (!isItem(item)) {
            return UNKNOWN;
        }
        Item it = items[item];
        if (!it.mayComeAt(t)) {
            return OUTSIDE;
        }
        if (!it.lost) {
            return 0;
        }
        it.expectNothing();
        it.last = t;
        return 1;
    }

    public int cluster(int i, int what) {
        int place = counts.clusterPlace(i);
        if (place == NONE) {
            return NONE;
        }
        switch (what) {
            case 0:
                return place;
            case 1:
                return counts.lateAt(place);
            case 2:
                return counts.begunAt(place);
            default:
                return NONE;
        }
    }

    public int failing(int i) {
        return rows.failedRow(i);
    }

    private static boolean isItem(int item) {
        return item >= 0 && item < ITEMS;
    }

    private static boolean isPlace(int place) {
        return place >= 0 && place < PLACES;
    }

    private static boolean isService(int service) {
        return service >= 0 && service < SERVICES;
    }

    /** Never below 1, so that it can divide; the steps of two ints stay under 64. */
    private static int commonDivisor(int a, int b) {
        int greater = a;
        int rest = b;
        for (int step = 0; step < 64 && rest != 0; step++) {
            int next = greater % rest;
            greater = rest;
            rest = next;
        }
        return Math.max(greater, 1);
    }

    private int expectNext(Item it, Row row, int place, long t) {
        if (row == null) {
            return 0;
        }
        if (row.fails) {
            rows.noteFailed(row);
            return -row.number;
        }
        it.expect(row.number, place, holidays.dueAfter(t, row.within));
        counts.addBegun(place);
        return row.number;
    }

    private void tellLate(int number, Item it) {
        if (it.isExpected() && !it.late && it.due < clock) {
            it.late = true;
            counts.addLate(it.place);
            alarms.addAlarm(number, KIND_LATE, it);
        }
    }

    private void tellLost(int number, Item it) {
        if (it.isExpected() && !it.lost && clock - it.due > LOST_AFTER) {
            it.lost = true;
            alarms.addAlarm(number, KIND_LOST, it);
        }
    }

    /** One row of what must come next, or of what fails. */
    private static final class Row {
        private final int number;
        private final int state;
        private final int place;
        private final int service;
        private final long within;
        private final boolean fails;
        private boolean hasFailed = false;

        private Row(int number, int state, int place, int service, long within, boolean fails) {
            this.number = number;
            this.state = state;
            this.place = place;
            this.service = service;
            this.within = within;
            this.fails = fails;
        }

        private boolean isFor(int ofState, int ofPlace, int ofService) {
            return state == ofState
                && (place == ANY || place == ofPlace)
                && (service == ANY || service == ofService);
        }
    }

    /** The rows by their numbers, and those that failed by their first failing. */
    private static final class RowList {
        private final ArrayList<Row> all = new ArrayList<Row>();
        private final ArrayList<Row> failed = new ArrayList<Row>();

        private int addRow(int state, int place, int service, long within, boolean fails) {
            if (all.size() >= MOST_ROWS) {
                return ROOM;
            }
            int number = all.size() + 1;
            all.add(new Row(number, state, place, service, within, fails));
            return number;
        }

        private Row firstFor(int state, int place, int service) {
            for (int i = 0; i < all.size(); i++) {
                Row row = all.get(i);
                if (row.isFor(state, place, service)) {
                    return row;
                }
            }
            return null;
        }

        private void noteFailed(Row row) {
            if (!row.hasFailed) {
                row.hasFailed = true;
                failed.add(row);
            }
        }

        private int failedRow(int i) {
            if (i < 0 || i >= failed.size()) {
                return 0;
            }
            return failed.get(i).number;
        }
    }

    /** What is known of one item since its last delivery. */
    private static final class Item {
        private int state = NONE;
        private long first = 0L;
        private long last = 0L;
        /** The row that began what is expected; 0 when nothing is. */
        private int row = 0;
        private int place = 0;
        private long due = 0L;
        private boolean late = false;
        private boolean lost = false;

        private boolean isNew() {
            return state == NONE;
        }

        private boolean mayComeAt(long t) {
            return t >= 0L && t <= LAST_EVENT && (isNew() || t >= last);
        }

        private void takeEvent(int newState, long t) {
            if (isNew()) {
                first = t;
            }
            state = newState;
            last = t;
        }

        /** A delivery may itself be the first event: then no time has passed. */
        private int daysUntil(long t) {
            return isNew() ? 0 : (int) ((t - first) / DAY);
        }

        private void beginAnew() {
            state = NONE;
        }

        private boolean isExpected() {
            return row != 0;
        }

        private void expect(int ofRow, int atPlace, long dueAt) {
            row = ofRow;
            place = atPlace;
            due = dueAt;
        }

        private void expectNothing() {
            row = 0;
            late = false;
            lost = false;
        }

        private int toldState() {
            if (lost) {
                return state + 200;
            }
            return late ? state + 100 : state;
        }
    }

    /** The holidays, kept from the earliest on so that one walk finds a due time. */
    private static final class HolidayList {
        private final long[] days = new long[MOST_HOLIDAYS];
        private int count = 0;

        private int addDay(long day) {
            if (holds(day)) {
                return 0;
            }
            if (count >= MOST_HOLIDAYS) {
                return ROOM;
            }
            int at = count;
            while (at > 0 && days[at - 1] > day) {
                days[at] = days[at - 1];
                at--;
            }
            days[at] = day;
            count++;
            return 1;
        }

        private boolean holds(long day) {
            for (int i = 0; i < count; i++) {
                if (days[i] == day) {
                    return true;
                }
            }
            return false;
        }

        /** A holiday that begins at the due time, or around t with none to wait, puts off nothing. */
        private long dueAfter(long t, long within) {
            long due = t + within;
            for (int i = 0; i < count; i++) {
                long begin = Math.max(days[i] * DAY, t);
                long end = days[i] * DAY + DAY;
                if (begin < end && begin < due) {
                    due += end - begin;
                }
            }
            return due;
        }
    }

    /** One alarm as it was told. */
    private static final class Alarm {
        private final int item;
        private final int kind;
        private final int row;
        private final int place;
        private final int due;

        private Alarm(int item, int kind, int row, int place, int due) {
            this.item = item;
            this.kind = kind;
            this.row = row;
            this.place = place;
            this.due = due;
        }
    }

    /** The alarms in the order in which they were told, the first 400 alone. */
    private static final class AlarmList {
        private final ArrayList<Alarm> told = new ArrayList<Alarm>();

        private int size() {
            return told.size();
        }

        private void addAlarm(int number, int kind, Item it) {
            if (told.size() < MOST_ALARMS) {
                // Events, rows and holidays have bounds that keep a due time within an int.
                told.add(new Alarm(number, kind, it.row, it.place, (int) it.due));
            }
        }

        private int partOf(int i, int what) {
            if (i < 0 || i >= told.size()) {
                return NONE;
            }
            Alarm one = told.get(i);
            switch (what) {
                case 0:
                    return one.item;
                case 1:
                    return one.kind;
                case 2:
                    return one.row;
                case 3:
                    return one.place;
                case 4:
                    return one.due;
                default:
                    return NONE;
            }
        }
    }

    /** How many expectations were begun at each place, and how many became late. */
    private static final class PlaceCounts {
        private final int[] begun = new int[PLACES];
        private final int[] late = new int[PLACES];

        private void addBegun(int place) {
            if (isPlace(place)) {
                begun[place]++;
            }
        }

        private void addLate(int place) {
            if (isPlace(place)) {
                late[place]++;
            }
        }

        private int begunAt(int place) {
            return isPlace(place) ? begun[place] : 0;
        }

        private int lateAt(int place) {
            return isPlace(place) ? late[place] : 0;
        }

        private boolean isCluster(int place) {
            return lateAt(place) >= CLUSTER_FROM;
        }

        private int clusterPlace(int i) {
            for (int place = 0; place < PLACES; place++) {
                if (isCluster(place) && clustersBefore(place) == i) {
                    return place;
                }
            }
            return NONE;
        }

        private int clustersBefore(int place) {
            int before = 0;
            for (int other = 0; other < PLACES; other++) {
                if (isCluster(other) && comesBefore(other, place)) {
                    before++;
                }
            }
            return before;
        }

        /** Shares are compared crosswise, since a quotient would lose what tells them apart. */
        private boolean comesBefore(int a, int b) {
            long left = (long) lateAt(a) * begunAt(b);
            long right = (long) lateAt(b) * begunAt(a);
            return left > right || (left == right && a < b);
        }
    }

    /** The deliveries' days, kept from the least on over all services. */
    private static final class DeliveryList {
        private final int[] days = new int[MOST_DELIVERIES];
        private final int[] services = new int[MOST_DELIVERIES];
        private int count = 0;

        private void addDelivery(int service, int ofDays) {
            if (count >= MOST_DELIVERIES) {
                return;
            }
            int at = count;
            while (at > 0 && days[at - 1] > ofDays) {
                days[at] = days[at - 1];
                services[at] = services[at - 1];
                at--;
            }
            days[at] = ofDays;
            services[at] = service;
            count++;
        }

        private int countOf(int service) {
            int number = 0;
            for (int i = 0; i < count; i++) {
                if (services[i] == service) {
                    number++;
                }
            }
            return number;
        }

        private int daysAtRank(int service, int rank) {
            int seen = 0;
            for (int i = 0; i < count; i++) {
                if (services[i] == service) {
                    seen++;
                    if (seen == rank) {
                        return days[i];
                    }
                }
            }
            return NONE;
        }
    }
}
