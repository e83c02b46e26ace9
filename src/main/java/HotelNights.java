import java.util.Arrays;

/** The nights of a hotel, as ../shared/DOC.md promises them; "section" and "promise" below point there. */
public final class HotelNights {
    public static final int NONE = -1;
    public static final int HELD = 0, PAID = 1, CANCELLED = 2, SENT = 3, OVER = 4;
    public static final int GUESTS = 0, DEPOSITS = 1, INCOME = 2, TAXES = 3;

    private static final int BOOKS = 4;
    private static final int MOST_KINDS = 3;
    private static final int MOST_ROOMS = 6;
    private static final int MOST_EXTRA = 3;
    private static final int MOST_PRICE = 100000;
    private static final int MOST_SEASONS = 4;
    private static final int MOST_STAYS = 60;
    private static final int MOST_NIGHTS = 14;
    private static final int MOST_PERSONS = 4;
    private static final int MOST_DAYS_TO_COME = 365;
    private static final int MOST_GUESTS = 20;
    private static final int MOST_GROUPS = 10;
    private static final int MOST_IN_GROUP = 6;
    private static final int MOST_UNDONE = 6;
    private static final int SORTS = 4;
    private static final int MOST_SALE_DAYS = 4;
    private static final int MOST_SALE_ROOMS = 4;
    private static final int THOUSAND = 1000;
    private static final int MINUTES_AFTER_LAST_NIGHT = 45;
    private static final int MINUTES_BETWEEN_NIGHTS = 20;
    /** A wide number is two longs, high * WIDE_BASE + low: the odds of nine stays have 27 digits. */
    private static final long WIDE_BASE = 1000000000000000L;

    private final Hotel now = new Hotel();
    private final History history = new History();
    private final RoomPlan plan = new RoomPlan();

    public HotelNights() {
        now.addKindRow(3, 10000);
        now.addKindRow(1, 25000);
    }

    // ---- Changes

    public int addKind(int rooms, int price) throws IllegalArgumentException, IllegalStateException {
        checkWithin(rooms, 1, MOST_ROOMS);
        checkWithin(price, 100, MOST_PRICE);
        checkState(now.kindCount < MOST_KINDS);
        history.keep(now);
        return now.addKindRow(rooms, price);
    }

    public int closeNight(int kind, int date, boolean isClosed)
            throws IndexOutOfBoundsException, IllegalArgumentException {
        checkIndex(kind, now.kindCount);
        int day = checkedDay(date);
        history.keep(now);
        now.kinds[kind].setClosed(day, isClosed);
        return isClosed ? 0 : now.lookAtGuests();
    }

    public int setExtra(int kind, int extra) throws IndexOutOfBoundsException, IllegalArgumentException {
        checkIndex(kind, now.kindCount);
        checkWithin(extra, 0, MOST_EXTRA);
        history.keep(now);
        now.kinds[kind].extra = extra;
        return now.lookAtGuests();
    }

    public int addSeason(int from, int to, int percentage, int least)
            throws IllegalArgumentException, IllegalStateException {
        checkArgument(Days.isDayOfYear(from) && Days.isDayOfYear(to));
        checkWithin(percentage, -50, 100);
        checkWithin(least, 1, 7);
        checkState(now.seasonCount < MOST_SEASONS);
        history.keep(now);
        return now.addSeasonRow(from, to, percentage, least);
    }

    public int setWeekend(int percentage, int tax) throws IllegalArgumentException {
        checkWithin(percentage, 0, 100);
        checkWithin(tax, 0, 1000);
        history.keep(now);
        int before = now.taxRate;
        now.weekendPercentage = percentage;
        now.taxRate = tax;
        return before;
    }

    public int ask(int kind, int first, int nights, int adults, int children, int till)
            throws IndexOutOfBoundsException, IllegalArgumentException, IllegalStateException {
        Wish wish = checkedWish(kind, first, nights, adults, children);
        int tillDay = checkedTill(till, wish);
        checkState(now.stays.size < MOST_STAYS);
        history.keep(now);
        return now.place(wish, tillDay, NONE);
    }

    public int group(int kind, int stays, int first, int nights, int till)
            throws IndexOutOfBoundsException, IllegalArgumentException, IllegalStateException {
        Wish wish = checkedWish(kind, first, nights, 1, 0);
        int tillDay = checkedTill(till, wish);
        checkWithin(stays, 1, MOST_IN_GROUP);
        checkState(now.groupCount < MOST_GROUPS && now.stays.size + stays <= MOST_STAYS);
        history.keep(now);
        return now.placeGroup(wish, stays, tillDay);
    }

    public int letGo(int group) throws IndexOutOfBoundsException {
        checkIndex(group, now.groupCount);
        history.keep(now);
        int cancelled = now.stays.cancelHeldOf(group);
        now.lookAtGuests();
        return cancelled;
    }

    public int waitFor(int kind, int first, int nights, int adults, int children)
            throws IndexOutOfBoundsException, IllegalArgumentException, IllegalStateException {
        Wish wish = checkedWish(kind, first, nights, adults, children);
        checkState(now.guestCount < MOST_GUESTS);
        history.keep(now);
        return now.addGuest(wish);
    }

    public int pay(int stay) throws IndexOutOfBoundsException, IllegalStateException {
        Stay row = checkedStay(stay);
        checkState(row.state == HELD);
        history.keep(now);
        return now.takeDeposit(row);
    }

    public int cancel(int stay) throws IndexOutOfBoundsException, IllegalStateException {
        Stay row = checkedStay(stay);
        checkState(row.isAlive() && row.first > now.today);
        history.keep(now);
        int back = now.cancelStay(row);
        now.lookAtGuests();
        return back;
    }

    public int longer(int stay, int nights)
            throws IndexOutOfBoundsException, IllegalArgumentException, IllegalStateException {
        Stay row = checkedStay(stay);
        checkWithin(nights, 1, MOST_NIGHTS - 1);
        checkWithin(row.nights + nights, 1, MOST_NIGHTS);
        checkArgument(now.isLastNightInReach(row.lastNight() + nights));
        checkState(row.isAlive());
        history.keep(now);
        return now.lengthen(row, nights);
    }

    public int shorter(int stay, int nights)
            throws IndexOutOfBoundsException, IllegalArgumentException, IllegalStateException {
        Stay row = checkedStay(stay);
        checkWithin(nights, 1, MOST_NIGHTS - 1);
        checkArgument(nights < row.nights);
        checkArgument(row.lastNight() - nights + 1 >= now.today);
        checkState(row.isAlive());
        history.keep(now);
        int sum = row.dropNights(nights);
        now.lookAtGuests();
        return sum;
    }

    public int passes(int days) throws IllegalArgumentException {
        checkWithin(days, 1, 31);
        checkArgument(now.today + days < Days.COUNT);
        history.keep(now);
        for (int i = 0; i < days; i++) {
            now.passDay();
            now.lookAtGuests();
        }
        return Days.dateOf(now.today);
    }

    public int setOdds(int sort, int price, int odds) throws IndexOutOfBoundsException, IllegalArgumentException {
        checkIndex(sort, SORTS);
        checkWithin(price, 0, MOST_PRICE);
        checkWithin(odds, 0, THOUSAND);
        int together = now.market.oddsTogether() - now.market.odds[sort] + odds;
        checkWithin(together, 0, THOUSAND);
        history.keep(now);
        now.market.prices[sort] = price;
        now.market.odds[sort] = odds;
        return together;
    }

    public int sell(int days, int rooms) throws IllegalArgumentException {
        checkWithin(days, 1, MOST_SALE_DAYS);
        checkWithin(rooms, 1, MOST_SALE_ROOMS);
        history.keep(now);
        now.sale.begin(days, rooms);
        return now.market.leastToTake(days, rooms);
    }

    public int offer(int price) throws IllegalArgumentException, IllegalStateException {
        checkWithin(price, 0, MOST_PRICE);
        checkState(now.sale.isOn && now.sale.days > 0);
        history.keep(now);
        return now.sale.take(price, now.market);
    }

    // ---- Undo

    public int undo() {
        return history.takeBack(now);
    }

    // ---- Dates

    public int today() {
        return Days.dateOf(now.today);
    }

    public int dayOfWeek(int date) throws IllegalArgumentException {
        return Days.weekdayOf(checkedDay(date));
    }

    public int addDays(int date, int days) throws IllegalArgumentException {
        int day = checkedDay(date);
        checkWithin(days, -1000, 1000);
        checkWithin(day + days, 0, Days.COUNT - 1);
        return Days.dateOf(day + days);
    }

    // ---- Kinds, nights, stays

    public int kinds() {
        return now.kindCount;
    }

    public int count(int kind, int date) throws IndexOutOfBoundsException, IllegalArgumentException {
        checkIndex(kind, now.kindCount);
        return now.stays.countOn(kind, checkedDay(date));
    }

    public int greatest(int kind, int from, int to) throws IndexOutOfBoundsException, IllegalArgumentException {
        checkIndex(kind, now.kindCount);
        int fromDay = checkedDay(from);
        int toDay = checkedDay(to);
        checkWithin(toDay - fromDay, 0, 400);
        return now.stays.mostOn(kind, fromDay, toDay);
    }

    public int needed(int kind) throws IndexOutOfBoundsException {
        checkIndex(kind, now.kindCount);
        return now.stays.mostOnAnyNight(kind);
    }

    public int refusedNight() {
        return now.refusedDay == NONE ? 0 : Days.dateOf(now.refusedDay);
    }

    public int stayAt(int stay, int what) throws IndexOutOfBoundsException, IllegalArgumentException {
        Stay row = checkedStay(stay);
        checkWithin(what, 0, 8);
        return row.tell(what);
    }

    public int roomOf(int stay) throws IndexOutOfBoundsException, IllegalStateException {
        Stay row = checkedStay(stay);
        checkState(row.isAlive());
        plan.give(now, row.kind);
        return plan.rooms[stay];
    }

    public int priceOf(int kind, int date) throws IndexOutOfBoundsException, IllegalArgumentException {
        checkIndex(kind, now.kindCount);
        return now.nightPrice(kind, checkedDay(date));
    }

    public int refund(int stay) throws IndexOutOfBoundsException {
        return checkedStay(stay).refundOn(now.today);
    }

    public long book(int book) throws IndexOutOfBoundsException {
        checkIndex(book, BOOKS);
        return now.books[book];
    }

    public int waiting() {
        return now.guestCount;
    }

    // ---- Offers

    public long awaited(int days, int rooms) throws IllegalArgumentException {
        checkWithin(days, 0, MOST_SALE_DAYS);
        checkWithin(rooms, 0, MOST_SALE_ROOMS + 1);
        return now.market.incomes(days)[rooms];
    }

    public int limit(int days, int rooms) throws IllegalArgumentException {
        checkWithin(days, 1, MOST_SALE_DAYS);
        checkWithin(rooms, 1, MOST_SALE_ROOMS);
        return now.market.leastToTake(days, rooms);
    }

    public int saleAt(int what) throws IllegalArgumentException, IllegalStateException {
        checkWithin(what, 0, 3);
        checkState(now.sale.isOn);
        return now.sale.tell(what);
    }

    public int moreToSell(int kind, int odds, int risk) throws IndexOutOfBoundsException, IllegalArgumentException {
        checkIndex(kind, now.kindCount);
        checkWithin(odds, 0, THOUSAND);
        checkWithin(risk, 0, THOUSAND);
        int rooms = now.kinds[kind].rooms;
        int more = 3;
        while (more > 0 && !isWithinRisk(rooms, more, odds, risk)) {
            more--;
        }
        return more;
    }

    // ---- Housekeepers and reports

    public int minutes(int date) throws IllegalArgumentException {
        int night = checkedDay(date) - 1;
        return MINUTES_AFTER_LAST_NIGHT * roomsToClean(night, true)
                + MINUTES_BETWEEN_NIGHTS * roomsToClean(night, false);
    }

    public int rounds(int date) throws IllegalArgumentException {
        int night = checkedDay(date) - 1;
        return fewestRounds(roomsToClean(night, true), roomsToClean(night, false));
    }

    public int monthNights(int month) throws IllegalArgumentException {
        int from = checkedDay(firstDateOf(month));
        return now.stays.paidNights(from, from + Days.inMonth(month / 100, month % 100) - 1);
    }

    public long monthIncome(int month) throws IllegalArgumentException {
        int from = checkedDay(firstDateOf(month));
        return now.stays.paidIncome(from, from + Days.inMonth(month / 100, month % 100) - 1);
    }

    // ---- Measures and the second way

    public double meanPrice() {
        return now.stays.meanNightPrice();
    }

    public float share(int kind, int date) throws IndexOutOfBoundsException, IllegalArgumentException {
        checkIndex(kind, now.kindCount);
        int taken = now.stays.countOn(kind, checkedDay(date));
        int rooms = now.kinds[kind].rooms;
        return rooms < 1 ? 0.0f : (float) taken / (float) rooms;
    }

    public int checksum() {
        return now.stays.mixed(17) * 31 + Days.dateOf(now.today);
    }

    public int errors() {
        int wrong = 0;
        for (int kind = 0; kind < now.kindCount; kind++) {
            plan.give(now, kind);
            boolean isCrowded = now.stays.mostOnAnyNight(kind) > now.kinds[kind].rooms;
            if (isCrowded != plan.isSomeoneWithout) {
                wrong++;
            }
        }
        long together = 0;
        for (int i = 0; i < BOOKS; i++) {
            together += now.books[i];
        }
        return together == 0 ? wrong : wrong + 1;
    }

    // ---- Tests of arguments

    private static void checkIndex(int number, int size) {
        if (number < 0 || number >= size) {
            throw new IndexOutOfBoundsException("there is no such number");
        }
    }

    private static void checkArgument(boolean isRight) {
        if (!isRight) {
            throw new IllegalArgumentException("a number is out of range");
        }
    }

    private static void checkWithin(int number, int least, int most) {
        checkArgument(least <= number && number <= most);
    }

    private static void checkState(boolean isRight) {
        if (!isRight) {
            throw new IllegalStateException("this cannot be done now");
        }
    }

    private static int checkedDay(int date) {
        int day = Days.of(date);
        checkArgument(day != NONE);
        return day;
    }

    private Stay checkedStay(int stay) {
        checkIndex(stay, now.stays.size);
        return now.stays.rows[stay];
    }

    private Wish checkedWish(int kind, int first, int nights, int adults, int children) {
        checkIndex(kind, now.kindCount);
        int firstDay = checkedDay(first);
        checkWithin(nights, 1, MOST_NIGHTS);
        checkWithin(adults, 1, MOST_PERSONS);
        checkWithin(children, 0, MOST_PERSONS);
        checkArgument(firstDay >= now.today && now.isLastNightInReach(firstDay + nights - 1));
        return new Wish(kind, firstDay, nights, adults, children);
    }

    private int checkedTill(int till, Wish wish) {
        int day = checkedDay(till);
        checkWithin(day, now.today, wish.first);
        return day;
    }

    /** The date of the first day of a month, or a number that is no date, so that odd months are found by it. */
    private static int firstDateOf(int month) {
        boolean isInYears = 200001 <= month && month <= 209912;
        return isInYears ? month * 100 + 1 : NONE;
    }

    // ---- Reckonings

    /** How many rooms of all kinds have a stay with this night, which is its last one, or is not. */
    private int roomsToClean(int night, boolean isLast) {
        int found = 0;
        for (int kind = 0; kind < now.kindCount; kind++) {
            plan.give(now, kind);
            for (int i = 0; i < plan.size; i++) {
                int number = plan.order[i];
                Stay stay = now.stays.rows[number];
                boolean isInRoom = plan.rooms[number] != NONE && stay.hasNight(night);
                if (isInRoom && (stay.lastNight() == night) == isLast) {
                    found++;
                }
            }
        }
        return found;
    }

    /**
     * A round of 120 minutes holds two long rooms and one short one, one long room and three short ones, or six
     * short ones; so pairs of long rooms leave the most place for short ones.
     */
    private static int fewestRounds(int longRooms, int shortRooms) {
        int pairs = longRooms / 2;
        int singles = longRooms % 2;
        int shortLeft = Math.max(0, shortRooms - pairs - 3 * singles);
        return pairs + singles + (shortLeft + 5) / 6;
    }

    /**
     * Whether the odds that more stays come than there are rooms are not above the risk. As all = rooms + more,
     * more come than there are rooms when fewer than 'more' stay away: of each such term, rooms + 1 factors are
     * the odds to come, and these are put outside the sum. Both sides are taken times 1000 to the power of all.
     */
    private static boolean isWithinRisk(int rooms, int more, int odds, int risk) {
        int all = rooms + more;
        long sum = 0;
        long ways = 1;
        for (int away = 0; away < more; away++) {
            sum += ways * power(odds, more - 1 - away) * power(THOUSAND - odds, away);
            ways = ways * (all - away) / (away + 1);
        }
        long[] tail = {0, sum};
        multiply(tail, odds, rooms + 1);
        long[] bound = {0, risk};
        multiply(bound, THOUSAND, all - 1);
        return tail[0] < bound[0] || tail[0] == bound[0] && tail[1] <= bound[1];
    }

    private static long power(long base, int exponent) {
        long result = 1;
        for (int i = 0; i < exponent; i++) {
            result *= base;
        }
        return result;
    }

    /** Multiplies a wide number, high and low part, some times by a factor of 0 to 1000. */
    private static void multiply(long[] wide, int factor, int times) {
        for (int i = 0; i < times && wide.length == 2; i++) {
            long low = wide[1] * factor;
            wide[1] = low % WIDE_BASE;
            wide[0] = wide[0] * factor + low / WIDE_BASE;
        }
    }

    /** A percentage of an amount that is not below 0, rounded to the next cent, a half up. */
    private static int percentOf(int amount, int percentage) {
        return (int) (((long) amount * percentage + 50) / 100);
    }

    /** Half of an amount that is not below 0, rounded to the next cent, a half up. */
    private static int halfOf(int amount) {
        return (amount + 1) / 2;
    }

    /** The dates of the years 2000 to 2099, as days that are counted from 0 on. */
    private static final class Days {
        static final int COUNT = 36525;
        static final int FIRST_TODAY = 8822;
        private static final int[] BEFORE_MONTH = {0, 31, 59, 90, 120, 151, 181, 212, 243, 273, 304, 334};

        /** The day of a date, or NONE if it is no date. */
        static int of(int date) {
            int year = date / 10000;
            int month = date / 100 % 100;
            int day = date % 100;
            if (year < 2000 || year > 2099 || month < 1 || month > 12 || day < 1 || day > inMonth(year, month)) {
                return NONE;
            }
            int years = year - 2000;
            return years * 365 + (years + 3) / 4 + beforeMonth(year, month) + day - 1;
        }

        static int dateOf(int day) {
            int years = day * 4 / 1461;
            int year = 2000 + years;
            int dayOfYear = day - years * 365 - (years + 3) / 4;
            int month = 12;
            while (month > 1 && beforeMonth(year, month) > dayOfYear) {
                month--;
            }
            return year * 10000 + month * 100 + dayOfYear - beforeMonth(year, month) + 1;
        }

        static int beforeMonth(int year, int month) {
            if (month < 1 || month > 12) {
                return 0;
            }
            return BEFORE_MONTH[month - 1] + (month > 2 && year % 4 == 0 ? 1 : 0);
        }

        static int inMonth(int year, int month) {
            int atEnd = month == 12 ? 365 + (year % 4 == 0 ? 1 : 0) : beforeMonth(year, month + 1);
            return atEnd - beforeMonth(year, month);
        }

        /** 1 for Monday to 7 for Sunday; the day 0 was a Saturday. */
        static int weekdayOf(int day) {
            return (day + 5) % 7 + 1;
        }

        static boolean isDayOfYear(int monthDay) {
            return 101 <= monthDay && monthDay <= 1231 && of(20000000 + monthDay) != NONE;
        }
    }

    private static final class Kind {
        int rooms = 1;
        int price;
        int extra;
        final long[] closed = new long[Days.COUNT / 64 + 1];

        void begin(int roomCount, int basePrice) {
            rooms = roomCount;
            price = basePrice;
            extra = 0;
            Arrays.fill(closed, 0L);
        }

        void copyFrom(Kind other) {
            rooms = other.rooms;
            price = other.price;
            extra = other.extra;
            System.arraycopy(other.closed, 0, closed, 0, closed.length);
        }

        boolean isClosed(int day) {
            return 0 <= day && day < Days.COUNT && (closed[day / 64] >> day % 64 & 1) == 1;
        }

        void setClosed(int day, boolean isClosed) {
            if (day < 0 || day >= Days.COUNT) {
                return;
            }
            long bit = 1L << day % 64;
            closed[day / 64] = isClosed ? closed[day / 64] | bit : closed[day / 64] & ~bit;
        }

        /** How much fuller a night makes its price, in percent. */
        int percentageFor(int taken) {
            return rooms < 1 ? 0 : 10 * (4 * taken / rooms);
        }
    }

    private static final class Season {
        int from;
        int to;
        int percentage;
        int least;

        void begin(int firstDay, int lastDay, int percent, int leastNights) {
            from = firstDay;
            to = lastDay;
            percentage = percent;
            least = leastNights;
        }

        void copyFrom(Season other) {
            begin(other.from, other.to, other.percentage, other.least);
        }

        boolean has(int monthDay) {
            if (from <= to) {
                return from <= monthDay && monthDay <= to;
            }
            return monthDay >= from || monthDay <= to;
        }
    }

    /** What somebody asks or waits for. */
    private static final class Wish {
        int kind;
        int first;
        int nights;
        int adults;
        int children;

        Wish(int kind, int first, int nights, int adults, int children) {
            this.kind = kind;
            this.first = first;
            this.nights = nights;
            this.adults = adults;
            this.children = children;
        }

        void copyFrom(Wish other) {
            kind = other.kind;
            first = other.first;
            nights = other.nights;
            adults = other.adults;
            children = other.children;
        }
    }

    private static final class Stay {
        int state;
        int kind;
        int first;
        int nights;
        int adults;
        int children;
        int taxRate;
        int price;
        int deposit;
        int groupNumber;
        int till;
        final int[] nightPrices = new int[MOST_NIGHTS];

        /** Begins a stay without a night yet. */
        void begin(Wish wish, int tillDay, int groupOrNone, int rate) {
            state = HELD;
            kind = wish.kind;
            first = wish.first;
            nights = 0;
            adults = wish.adults;
            children = wish.children;
            taxRate = rate;
            price = 0;
            deposit = 0;
            groupNumber = groupOrNone;
            till = tillDay;
        }

        void copyFrom(Stay other) {
            state = other.state;
            kind = other.kind;
            first = other.first;
            nights = other.nights;
            adults = other.adults;
            children = other.children;
            taxRate = other.taxRate;
            price = other.price;
            deposit = other.deposit;
            groupNumber = other.groupNumber;
            till = other.till;
            System.arraycopy(other.nightPrices, 0, nightPrices, 0, MOST_NIGHTS);
        }

        boolean isAlive() {
            return state == HELD || state == PAID;
        }

        boolean isPaidOrOver() {
            return state == PAID || state == OVER;
        }

        int lastNight() {
            return first + nights - 1;
        }

        boolean hasNight(int day) {
            return first <= day && day < first + nights;
        }

        void addNight(int nightPrice) {
            if (nights < MOST_NIGHTS) {
                nightPrices[nights] = nightPrice;
                nights++;
                price += nightPrice;
            }
        }

        /** Leaves out the last nights, and returns their price. */
        int dropNights(int less) {
            int sum = 0;
            for (int i = 0; i < less && nights > 0; i++) {
                nights--;
                sum += nightPrices[nights];
            }
            price -= sum;
            return sum;
        }

        int taxOfAll() {
            return nights * (adults * taxRate + children * halfOf(taxRate));
        }

        int refundOn(int today) {
            if (state != PAID || first - today < 3) {
                return 0;
            }
            return first - today >= 14 ? deposit : halfOf(deposit);
        }

        int nightsWithin(int from, int to) {
            return Math.max(0, Math.min(to, lastNight()) - Math.max(from, first) + 1);
        }

        long incomeWithin(int from, int to) {
            long sum = 0;
            for (int i = 0; i < nights && i < MOST_NIGHTS; i++) {
                if (from <= first + i && first + i <= to) {
                    sum += nightPrices[i];
                }
            }
            return sum;
        }

        int tell(int what) {
            switch (what) {
                case 0: return state;
                case 1: return kind;
                case 2: return Days.dateOf(first);
                case 3: return nights;
                case 4: return price;
                case 5: return deposit;
                case 6: return taxOfAll();
                case 7: return groupNumber;
                default: return Days.dateOf(till);
            }
        }
    }

    /** All stays, by their numbers. Rows from size on are spare ones. */
    private static final class Stays {
        final Stay[] rows = new Stay[MOST_STAYS];
        int size;

        Stays() {
            for (int i = 0; i < MOST_STAYS; i++) {
                rows[i] = new Stay();
            }
        }

        void copyFrom(Stays other) {
            size = other.size;
            for (int i = 0; i < size; i++) {
                rows[i].copyFrom(other.rows[i]);
            }
        }

        int countOn(int kind, int day) {
            int found = 0;
            for (int i = 0; i < size; i++) {
                Stay stay = rows[i];
                if (stay.kind == kind && stay.isAlive() && stay.hasNight(day)) {
                    found++;
                }
            }
            return found;
        }

        /** The greatest count of some nights: counts become greater on first nights alone. */
        int mostOn(int kind, int from, int to) {
            int most = countOn(kind, from);
            for (int i = 0; i < size; i++) {
                Stay stay = rows[i];
                if (stay.kind == kind && stay.isAlive() && from < stay.first && stay.first <= to) {
                    most = Math.max(most, countOn(kind, stay.first));
                }
            }
            return most;
        }

        int mostOnAnyNight(int kind) {
            return mostOn(kind, 0, Days.COUNT - 1);
        }

        int cancelHeldOf(int group) {
            int cancelled = 0;
            for (int i = 0; i < size; i++) {
                if (rows[i].groupNumber == group && rows[i].state == HELD) {
                    rows[i].state = CANCELLED;
                    cancelled++;
                }
            }
            return cancelled;
        }

        void cancelHeldLate(int today) {
            for (int i = 0; i < size; i++) {
                Stay stay = rows[i];
                if (stay.state == HELD && (stay.till < today || stay.first <= today)) {
                    stay.state = CANCELLED;
                }
            }
        }

        /** The number of the stay that is sent away first on a night, or NONE. */
        int latestComer(int kind, int night) {
            int latest = NONE;
            for (int i = 0; i < size; i++) {
                Stay stay = rows[i];
                if (stay.kind == kind && stay.isAlive() && stay.hasNight(night)
                        && (latest == NONE || stay.first >= rows[latest].first)) {
                    latest = i;
                }
            }
            return latest;
        }

        int paidNights(int from, int to) {
            int sum = 0;
            for (int i = 0; i < size; i++) {
                if (rows[i].isPaidOrOver()) {
                    sum += rows[i].nightsWithin(from, to);
                }
            }
            return sum;
        }

        long paidIncome(int from, int to) {
            long sum = 0;
            for (int i = 0; i < size; i++) {
                if (rows[i].isPaidOrOver()) {
                    sum += rows[i].incomeWithin(from, to);
                }
            }
            return sum;
        }

        double meanNightPrice() {
            long prices = 0;
            int nights = 0;
            for (int i = 0; i < size; i++) {
                if (rows[i].isAlive()) {
                    prices += rows[i].price;
                    nights += rows[i].nights;
                }
            }
            return nights < 1 ? 0.0 : (double) prices / (double) nights;
        }

        int mixed(int start) {
            int sum = start;
            for (int i = 0; i < size; i++) {
                sum = sum * 31 + rows[i].state;
                sum = sum * 31 + rows[i].price;
                sum = sum * 31 + rows[i].nights;
            }
            return sum;
        }
    }

    /** The sorts of offers, and what they let one await (section 10). */
    private static final class Market {
        final int[] prices = new int[SORTS];
        final int[] odds = new int[SORTS];

        void copyFrom(Market other) {
            System.arraycopy(other.prices, 0, prices, 0, SORTS);
            System.arraycopy(other.odds, 0, odds, 0, SORTS);
        }

        int oddsTogether() {
            int sum = 0;
            for (int i = 0; i < SORTS; i++) {
                sum += odds[i];
            }
            return sum;
        }

        /** The awaited income of some days by rooms, times 1000 to the power of the days. */
        long[] incomes(int days) {
            long[] byRooms = new long[MOST_SALE_ROOMS + 2];
            long scale = 1;
            for (int day = 0; day < days; day++) {
                // From the last one down, as each needs the day ahead of it with one room less.
                for (int rooms = MOST_SALE_ROOMS + 1; rooms > 0; rooms--) {
                    byRooms[rooms] = withOneDayMore(byRooms[rooms], byRooms[rooms - 1], scale);
                }
                scale *= THOUSAND;
            }
            return byRooms;
        }

        private long withOneDayMore(long ifLeft, long ifTaken, long scale) {
            long sum = (THOUSAND - oddsTogether()) * ifLeft;
            for (int i = 0; i < SORTS; i++) {
                sum += odds[i] * Math.max(ifLeft, prices[i] * scale + ifTaken);
            }
            return sum;
        }

        /** The limit: the worth of the room that a taken offer uses, for the days that come then. */
        int leastToTake(int days, int rooms) {
            if (days < 1 || rooms < 1 || rooms > MOST_SALE_ROOMS) {
                return 0;
            }
            long[] byRooms = incomes(days - 1);
            long worth = byRooms[rooms] - byRooms[rooms - 1];
            long scale = power(THOUSAND, days - 1);
            return scale < 1 ? 0 : (int) ((worth + scale - 1) / scale);
        }
    }

    private static final class Sale {
        boolean isOn;
        int days;
        int rooms;
        int income;
        int roomsAtFirst;
        int offerCount;
        /** The prices of the offers that came, the greatest one first. */
        final int[] offers = new int[MOST_SALE_DAYS];

        void begin(int dayCount, int roomCount) {
            isOn = true;
            days = dayCount;
            rooms = roomCount;
            income = 0;
            roomsAtFirst = roomCount;
            offerCount = 0;
        }

        void copyFrom(Sale other) {
            isOn = other.isOn;
            days = other.days;
            rooms = other.rooms;
            income = other.income;
            roomsAtFirst = other.roomsAtFirst;
            offerCount = other.offerCount;
            System.arraycopy(other.offers, 0, offers, 0, MOST_SALE_DAYS);
        }

        int take(int price, Market market) {
            boolean isTaken = rooms > 0 && price >= market.leastToTake(days, rooms);
            days--;
            remember(price);
            if (!isTaken) {
                return NONE;
            }
            rooms--;
            income += price;
            return income;
        }

        private void remember(int price) {
            if (offerCount >= MOST_SALE_DAYS) {
                return;
            }
            int place = offerCount;
            while (place > 0 && offers[place - 1] < price) {
                offers[place] = offers[place - 1];
                place--;
            }
            offers[place] = price;
            offerCount++;
        }

        int tell(int what) {
            switch (what) {
                case 0: return days;
                case 1: return rooms;
                case 2: return income;
                default: return bestInHindsight();
            }
        }

        private int bestInHindsight() {
            int sum = 0;
            for (int i = 0; i < offerCount && i < roomsAtFirst && i < MOST_SALE_DAYS; i++) {
                sum += offers[i];
            }
            return sum;
        }
    }

    /** All that belongs to the state and can be undone. */
    private static final class Hotel {
        int today = Days.FIRST_TODAY;
        int refusedDay = NONE;
        int kindCount;
        int seasonCount;
        int guestCount;
        int groupCount;
        int weekendPercentage;
        int taxRate;
        final Kind[] kinds = new Kind[MOST_KINDS];
        final Season[] seasons = new Season[MOST_SEASONS];
        final Wish[] guests = new Wish[MOST_GUESTS];
        final Stays stays = new Stays();
        final long[] books = new long[BOOKS];
        final Market market = new Market();
        final Sale sale = new Sale();

        Hotel() {
            for (int i = 0; i < MOST_KINDS; i++) {
                kinds[i] = new Kind();
            }
            for (int i = 0; i < MOST_SEASONS; i++) {
                seasons[i] = new Season();
            }
            for (int i = 0; i < MOST_GUESTS; i++) {
                guests[i] = new Wish(0, 0, 1, 1, 0);
            }
        }

        void copyFrom(Hotel other) {
            today = other.today;
            refusedDay = other.refusedDay;
            kindCount = other.kindCount;
            seasonCount = other.seasonCount;
            guestCount = other.guestCount;
            groupCount = other.groupCount;
            weekendPercentage = other.weekendPercentage;
            taxRate = other.taxRate;
            for (int i = 0; i < kindCount; i++) {
                kinds[i].copyFrom(other.kinds[i]);
            }
            for (int i = 0; i < seasonCount; i++) {
                seasons[i].copyFrom(other.seasons[i]);
            }
            for (int i = 0; i < guestCount; i++) {
                guests[i].copyFrom(other.guests[i]);
            }
            stays.copyFrom(other.stays);
            System.arraycopy(other.books, 0, books, 0, BOOKS);
            market.copyFrom(other.market);
            sale.copyFrom(other.sale);
        }

        int addKindRow(int rooms, int price) {
            if (kindCount >= MOST_KINDS) {
                return NONE;
            }
            kinds[kindCount].begin(rooms, price);
            kindCount++;
            return kindCount - 1;
        }

        int addSeasonRow(int from, int to, int percentage, int least) {
            if (seasonCount >= MOST_SEASONS) {
                return NONE;
            }
            seasons[seasonCount].begin(from, to, percentage, least);
            seasonCount++;
            return seasonCount - 1;
        }

        int addGuest(Wish wish) {
            if (guestCount < MOST_GUESTS) {
                guests[guestCount].copyFrom(wish);
                guestCount++;
            }
            return guestCount;
        }

        boolean isLastNightInReach(int day) {
            return day <= today + MOST_DAYS_TO_COME && day < Days.COUNT;
        }

        int nightPrice(int kind, int day) {
            int percentage = 100 + kinds[kind].percentageFor(stays.countOn(kind, day));
            int monthDay = Days.dateOf(day) % 10000;
            for (int i = 0; i < seasonCount; i++) {
                if (seasons[i].has(monthDay)) {
                    percentage += seasons[i].percentage;
                }
            }
            int weekday = Days.weekdayOf(day);
            if (weekday == 5 || weekday == 6) {
                percentage += weekendPercentage;
            }
            return percentOf(kinds[kind].price, Math.max(0, percentage));
        }

        private int leastNights(int day) {
            int monthDay = Days.dateOf(day) % 10000;
            int least = 1;
            for (int i = 0; i < seasonCount; i++) {
                if (seasons[i].has(monthDay)) {
                    least = Math.max(least, seasons[i].least);
                }
            }
            return least;
        }

        /** The first one of some nights that cannot be had, or NONE. */
        private int firstNotHad(int kind, int first, int nights) {
            Kind row = kinds[kind];
            for (int day = first; day < first + nights; day++) {
                if (row.isClosed(day) || stays.countOn(kind, day) >= row.rooms + row.extra) {
                    return day;
                }
            }
            return NONE;
        }

        /** The night for which a wish is refused, or NONE. */
        private int refusalOf(Wish wish) {
            int notHad = firstNotHad(wish.kind, wish.first, wish.nights);
            if (notHad == NONE && wish.nights < leastNights(wish.first)) {
                return wish.first;
            }
            return notHad;
        }

        /** Gives a new stay to a wish, and returns its number; NONE if it is refused. */
        int place(Wish wish, int till, int groupOrNone) {
            int refusal = refusalOf(wish);
            if (refusal != NONE) {
                refusedDay = refusal;
                return NONE;
            }
            return takeIn(wish, till, groupOrNone);
        }

        int placeGroup(Wish wish, int stayCount, int till) {
            int before = stays.size;
            for (int i = 0; i < stayCount; i++) {
                if (place(wish, till, groupCount) == NONE) {
                    stays.size = before;
                    return NONE;
                }
            }
            groupCount++;
            return groupCount - 1;
        }

        private int takeIn(Wish wish, int till, int groupOrNone) {
            if (stays.size >= MOST_STAYS) {
                return NONE;
            }
            Stay stay = stays.rows[stays.size];
            stay.begin(wish, till, groupOrNone, taxRate);
            addNights(stay, wish.nights);
            stays.size++;
            return stays.size - 1;
        }

        /** Adds nights behind the last one of a stay, and returns their price. */
        private int addNights(Stay stay, int nights) {
            int before = stay.price;
            for (int i = 0; i < nights; i++) {
                stay.addNight(nightPrice(stay.kind, stay.first + stay.nights));
            }
            return stay.price - before;
        }

        int lengthen(Stay stay, int nights) {
            int refusal = firstNotHad(stay.kind, stay.first + stay.nights, nights);
            if (refusal != NONE) {
                refusedDay = refusal;
                return NONE;
            }
            return addNights(stay, nights);
        }

        int takeDeposit(Stay stay) {
            stay.state = PAID;
            stay.deposit = percentOf(stay.price, 20);
            books[GUESTS] -= stay.deposit;
            books[DEPOSITS] += stay.deposit;
            return stay.deposit;
        }

        /** Cancels a stay, and returns its refund. */
        int cancelStay(Stay stay) {
            int back = stay.refundOn(today);
            if (stay.state == PAID) {
                books[DEPOSITS] -= stay.deposit;
                books[GUESTS] += back;
                books[INCOME] += stay.deposit - back;
            }
            stay.state = CANCELLED;
            return back;
        }

        private void endStay(Stay stay) {
            long tax = stay.taxOfAll();
            books[DEPOSITS] -= stay.deposit;
            books[GUESTS] -= stay.price + tax - stay.deposit;
            books[INCOME] += stay.price;
            books[TAXES] += tax;
            stay.state = OVER;
        }

        private void sendAway(Stay stay) {
            books[DEPOSITS] -= stay.deposit;
            books[GUESTS] += stay.deposit;
            stay.state = SENT;
        }

        /** The steps (a) to (d) of section 8. */
        void passDay() {
            today++;
            for (int i = 0; i < stays.size; i++) {
                Stay stay = stays.rows[i];
                if (stay.state == PAID && stay.lastNight() < today) {
                    endStay(stay);
                }
            }
            stays.cancelHeldLate(today);
            for (int kind = 0; kind < kindCount; kind++) {
                sendAwayBeyondRooms(kind);
            }
        }

        private void sendAwayBeyondRooms(int kind) {
            int tooMany = stays.countOn(kind, today) - kinds[kind].rooms;
            for (int i = 0; i < tooMany; i++) {
                int number = stays.latestComer(kind, today);
                if (number != NONE) {
                    sendAway(stays.rows[number]);
                }
            }
        }

        /** Looks at the waiting guests (section 9), and returns how many got a stay. */
        int lookAtGuests() {
            int got = 0;
            int left = 0;
            for (int i = 0; i < guestCount; i++) {
                Wish guest = guests[i];
                if (guest.first < today) {
                    continue;
                }
                if (stays.size < MOST_STAYS && refusalOf(guest) == NONE) {
                    takeIn(guest, guest.first, NONE);
                    got++;
                } else {
                    guests[left].copyFrom(guest);
                    left++;
                }
            }
            guestCount = left;
            return got;
        }
    }

    /** The rooms that the stays of one kind have (section 4). */
    private static final class RoomPlan {
        /** The numbers of the stays that are alive, as they are gone through. */
        final int[] order = new int[MOST_STAYS];
        int size;
        /** By the number of a stay in the order: its room, or NONE. */
        final int[] rooms = new int[MOST_STAYS];
        boolean isSomeoneWithout;
        private final int[] lastNights = new int[MOST_ROOMS];

        void give(Hotel hotel, int kind) {
            sort(hotel.stays, kind);
            Arrays.fill(lastNights, NONE);
            isSomeoneWithout = false;
            for (int i = 0; i < size; i++) {
                Stay stay = hotel.stays.rows[order[i]];
                int room = lowestFree(stay.first, hotel.kinds[kind].rooms);
                rooms[order[i]] = room;
                if (room == NONE) {
                    isSomeoneWithout = true;
                } else {
                    // Those ahead in this room end before this one begins, so its last night is the latest.
                    lastNights[room] = stay.lastNight();
                }
            }
        }

        private void sort(Stays stays, int kind) {
            size = 0;
            for (int number = 0; number < stays.size; number++) {
                Stay stay = stays.rows[number];
                if (stay.kind != kind || !stay.isAlive()) {
                    continue;
                }
                int place = size;
                while (place > 0 && stays.rows[order[place - 1]].first > stay.first) {
                    order[place] = order[place - 1];
                    place--;
                }
                order[place] = number;
                size++;
            }
        }

        private int lowestFree(int first, int roomCount) {
            for (int room = 0; room < roomCount && room < MOST_ROOMS; room++) {
                if (lastNights[room] < first) {
                    return room;
                }
            }
            return NONE;
        }
    }

    /** The states ahead of the latest changes, in rows that are used again. */
    private static final class History {
        private final Hotel[] states = new Hotel[MOST_UNDONE];
        private int next;
        private int size;

        History() {
            for (int i = 0; i < MOST_UNDONE; i++) {
                states[i] = new Hotel();
            }
        }

        void keep(Hotel hotel) {
            states[next].copyFrom(hotel);
            next = (next + 1) % MOST_UNDONE;
            size = Math.min(size + 1, MOST_UNDONE);
        }

        /** Takes the latest change back, and returns how many can still be; NONE without one. */
        int takeBack(Hotel hotel) {
            if (size < 1) {
                return NONE;
            }
            next = (next + MOST_UNDONE - 1) % MOST_UNDONE;
            size--;
            hotel.copyFrom(states[next]);
            return size;
        }
    }
}
