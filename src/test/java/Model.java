import java.math.BigDecimal;
import java.math.BigInteger;
import java.math.RoundingMode;
import java.time.DateTimeException;
import java.time.LocalDate;
import java.time.temporal.ChronoUnit;
import java.util.ArrayDeque;
import java.util.ArrayList;
import java.util.Arrays;
import java.util.Collections;
import java.util.Deque;
import java.util.HashSet;
import java.util.List;
import java.util.Set;
import java.util.TreeMap;

/**
 * The document told a second time, slowly, with the Java library and other ways of reckoning than HotelNights has;
 * its calls have the names and parameters of the face, so that random runs can be compared.
 */
final class Model {
    private static final BigDecimal THOUSAND = new BigDecimal(1000);

    static final class Kind {
        int rooms;
        int price;
        int extra;

        Kind copy() {
            Kind other = new Kind();
            other.rooms = rooms;
            other.price = price;
            other.extra = extra;
            return other;
        }
    }

    static final class Stay {
        String state = "HELD";
        int kind;
        /** The nights with their prices. */
        TreeMap<LocalDate, Integer> nights = new TreeMap<>();
        int adults;
        int children;
        int tax;
        int deposit;
        int group = -1;
        LocalDate till;

        Stay copy() {
            Stay other = new Stay();
            other.state = state;
            other.kind = kind;
            other.nights = new TreeMap<>(nights);
            other.adults = adults;
            other.children = children;
            other.tax = tax;
            other.deposit = deposit;
            other.group = group;
            other.till = till;
            return other;
        }

        boolean alive() {
            return state.equals("HELD") || state.equals("PAID");
        }

        int price() {
            return nights.values().stream().mapToInt(Integer::intValue).sum();
        }

        int taxSum() {
            int half = new BigDecimal(tax).divide(new BigDecimal(2), 0, RoundingMode.HALF_UP).intValue();
            int sum = 0;
            for (int i = 0; i < nights.size(); i++) {
                sum += adults * tax + children * half;
            }
            return sum;
        }
    }

    record Season(int from, int to, int percentage, int least) {
        boolean has(LocalDate night) {
            int wanted = night.getMonthValue() * 100 + night.getDayOfMonth();
            for (LocalDate d = dayOf(from); ; d = d.plusDays(1)) {
                int found = d.getMonthValue() * 100 + d.getDayOfMonth();
                if (found == wanted) {
                    return true;
                }
                if (found == to) {
                    return false;
                }
                if (found == 1231) {
                    d = LocalDate.of(2003, 12, 31);
                }
            }
        }

        private static LocalDate dayOf(int monthDay) {
            return LocalDate.of(2004, monthDay / 100, monthDay % 100);
        }
    }

    record Guest(int kind, LocalDate first, int nights, int adults, int children) {
    }

    static final class State {
        LocalDate today = LocalDate.of(2024, 2, 26);
        List<Kind> kinds = new ArrayList<>();
        Set<String> closed = new HashSet<>();
        List<Season> seasons = new ArrayList<>();
        int weekend;
        int tax;
        List<Stay> stays = new ArrayList<>();
        int groups;
        List<Guest> guests = new ArrayList<>();
        long[] books = new long[4];
        LocalDate refused;
        int[][] sorts = new int[4][2];
        boolean saleIsOn;
        int saleDays;
        int saleRooms;
        int saleRoomsAtFirst;
        int saleIncome;
        List<Integer> offers = new ArrayList<>();

        State copy() {
            State other = new State();
            other.today = today;
            kinds.forEach(kind -> other.kinds.add(kind.copy()));
            other.closed = new HashSet<>(closed);
            other.seasons = new ArrayList<>(seasons);
            other.weekend = weekend;
            other.tax = tax;
            stays.forEach(stay -> other.stays.add(stay.copy()));
            other.groups = groups;
            other.guests = new ArrayList<>(guests);
            other.books = books.clone();
            other.refused = refused;
            for (int i = 0; i < 4; i++) {
                other.sorts[i] = sorts[i].clone();
            }
            other.saleIsOn = saleIsOn;
            other.saleDays = saleDays;
            other.saleRooms = saleRooms;
            other.saleRoomsAtFirst = saleRoomsAtFirst;
            other.saleIncome = saleIncome;
            other.offers = new ArrayList<>(offers);
            return other;
        }
    }

    private State s = new State();
    private final Deque<State> before = new ArrayDeque<>();

    Model() {
        newKind(3, 10000);
        newKind(1, 25000);
    }

    private void newKind(int rooms, int price) {
        Kind kind = new Kind();
        kind.rooms = rooms;
        kind.price = price;
        s.kinds.add(kind);
    }

    private void change() {
        before.push(s.copy());
        if (before.size() > 6) {
            before.removeLast();
        }
    }

    /** The number of stays; no call of the face tells it. */
    int stays() {
        return s.stays.size();
    }

    // ---- what is thrown

    private static void index(int number, int size) {
        if (number < 0 || number >= size) {
            throw new IndexOutOfBoundsException();
        }
    }

    private static void argument(boolean isRight) {
        if (!isRight) {
            throw new IllegalArgumentException();
        }
    }

    private static void range(int number, int least, int most) {
        argument(number >= least && number <= most);
    }

    private static void state(boolean isRight) {
        if (!isRight) {
            throw new IllegalStateException();
        }
    }

    private static LocalDate date(int number) {
        argument(number >= 20000101 && number <= 20991231);
        LocalDate date = null;
        try {
            date = LocalDate.of(number / 10000, number / 100 % 100, number % 100);
        } catch (DateTimeException e) {
            argument(false);
        }
        return date;
    }

    private static int number(LocalDate date) {
        return Integer.parseInt(date.toString().replace("-", ""));
    }

    private static void dayOfYear(int monthDay) {
        argument(monthDay > 0 && monthDay < 10000);
        date(20240000 + monthDay);
    }

    // ---- changes

    public int addKind(int rooms, int price) {
        range(rooms, 1, 6);
        range(price, 100, 100000);
        state(s.kinds.size() < 3);
        change();
        newKind(rooms, price);
        return s.kinds.size() - 1;
    }

    public int closeNight(int kind, int date, boolean isClosed) {
        index(kind, s.kinds.size());
        LocalDate night = date(date);
        change();
        String key = kind + " " + night;
        if (isClosed) {
            s.closed.add(key);
            return 0;
        }
        s.closed.remove(key);
        return look();
    }

    public int setExtra(int kind, int extra) {
        index(kind, s.kinds.size());
        range(extra, 0, 3);
        change();
        s.kinds.get(kind).extra = extra;
        return look();
    }

    public int addSeason(int from, int to, int percentage, int least) {
        dayOfYear(from);
        dayOfYear(to);
        range(percentage, -50, 100);
        range(least, 1, 7);
        state(s.seasons.size() < 4);
        change();
        s.seasons.add(new Season(from, to, percentage, least));
        return s.seasons.size() - 1;
    }

    public int setWeekend(int percentage, int tax) {
        range(percentage, 0, 100);
        range(tax, 0, 1000);
        change();
        int old = s.tax;
        s.weekend = percentage;
        s.tax = tax;
        return old;
    }

    private Guest asked(int kind, int first, int nights, int adults, int children) {
        index(kind, s.kinds.size());
        LocalDate night = date(first);
        range(nights, 1, 14);
        range(adults, 1, 4);
        range(children, 0, 4);
        argument(!night.isBefore(s.today));
        lastNight(night.plusDays(nights - 1));
        return new Guest(kind, night, nights, adults, children);
    }

    private void lastNight(LocalDate last) {
        argument(ChronoUnit.DAYS.between(s.today, last) <= 365);
        argument(last.getYear() <= 2099);
    }

    private LocalDate heldTill(int till, Guest guest) {
        LocalDate date = date(till);
        argument(!date.isBefore(s.today) && !date.isAfter(guest.first));
        return date;
    }

    public int ask(int kind, int first, int nights, int adults, int children, int till) {
        Guest guest = asked(kind, first, nights, adults, children);
        LocalDate date = heldTill(till, guest);
        state(s.stays.size() < 60);
        change();
        s.refused = refusal(guest) == null ? s.refused : refusal(guest);
        return refusal(guest) == null ? stay(guest, date, -1) : -1;
    }

    public int group(int kind, int stays, int first, int nights, int till) {
        Guest guest = asked(kind, first, nights, 1, 0);
        LocalDate date = heldTill(till, guest);
        range(stays, 1, 6);
        state(s.groups < 10 && s.stays.size() + stays <= 60);
        change();
        State start = s.copy();
        for (int i = 0; i < stays; i++) {
            LocalDate refused = refusal(guest);
            if (refused != null) {
                s = start;
                s.refused = refused;
                return -1;
            }
            stay(guest, date, s.groups);
        }
        return s.groups++;
    }

    public int letGo(int group) {
        index(group, s.groups);
        change();
        int gone = 0;
        for (Stay stay : s.stays) {
            if (stay.group == group && stay.state.equals("HELD")) {
                stay.state = "CANCELLED";
                gone++;
            }
        }
        look();
        return gone;
    }

    public int waitFor(int kind, int first, int nights, int adults, int children) {
        Guest guest = asked(kind, first, nights, adults, children);
        state(s.guests.size() < 20);
        change();
        s.guests.add(guest);
        return s.guests.size();
    }

    public int pay(int stay) {
        index(stay, s.stays.size());
        Stay row = s.stays.get(stay);
        state(row.state.equals("HELD"));
        change();
        row.state = "PAID";
        row.deposit = share(row.price(), 20, 100);
        post(0, -row.deposit);
        post(1, row.deposit);
        return row.deposit;
    }

    public int cancel(int stay) {
        index(stay, s.stays.size());
        Stay row = s.stays.get(stay);
        state(row.alive() && row.nights.firstKey().isAfter(s.today));
        change();
        int refund = refund(stay);
        if (row.state.equals("PAID")) {
            post(1, -row.deposit);
            post(0, refund);
            post(2, row.deposit - refund);
        }
        row.state = "CANCELLED";
        look();
        return refund;
    }

    public int longer(int stay, int nights) {
        index(stay, s.stays.size());
        Stay row = s.stays.get(stay);
        range(nights, 1, 13);
        argument(row.nights.size() + nights <= 14);
        LocalDate last = row.nights.lastKey();
        lastNight(last.plusDays(nights));
        state(row.alive());
        change();
        LocalDate refused = notHad(row.kind, last.plusDays(1), nights);
        if (refused != null) {
            s.refused = refused;
            return -1;
        }
        int sum = 0;
        for (int i = 1; i <= nights; i++) {
            int price = price(row.kind, last.plusDays(i));
            row.nights.put(last.plusDays(i), price);
            sum += price;
        }
        return sum;
    }

    public int shorter(int stay, int nights) {
        index(stay, s.stays.size());
        Stay row = s.stays.get(stay);
        range(nights, 1, 13);
        argument(row.nights.size() > nights);
        argument(!row.nights.lastKey().minusDays(nights - 1).isBefore(s.today));
        state(row.alive());
        change();
        int sum = 0;
        for (int i = 0; i < nights; i++) {
            sum += row.nights.pollLastEntry().getValue();
        }
        look();
        return sum;
    }

    public int passes(int days) {
        range(days, 1, 31);
        argument(s.today.plusDays(days).getYear() <= 2099);
        change();
        for (int i = 0; i < days; i++) {
            day();
        }
        return number(s.today);
    }

    private void day() {
        s.today = s.today.plusDays(1);
        for (Stay stay : s.stays) {
            if (stay.state.equals("PAID") && stay.nights.lastKey().isBefore(s.today)) {
                stay.state = "OVER";
                post(1, -stay.deposit);
                post(0, -(stay.price() + stay.taxSum() - stay.deposit));
                post(2, stay.price());
                post(3, stay.taxSum());
            }
        }
        for (Stay stay : s.stays) {
            boolean isLate = stay.till.isBefore(s.today) || !stay.nights.firstKey().isAfter(s.today);
            if (stay.state.equals("HELD") && isLate) {
                stay.state = "CANCELLED";
            }
        }
        for (int kind = 0; kind < s.kinds.size(); kind++) {
            while (taken(kind, s.today) > s.kinds.get(kind).rooms) {
                sendOneAway(kind);
            }
        }
        look();
    }

    private void sendOneAway(int kind) {
        List<Stay> here = new ArrayList<>();
        for (Stay stay : s.stays) {
            if (stay.kind == kind && stay.alive() && stay.nights.containsKey(s.today)) {
                here.add(stay);
            }
        }
        Collections.reverse(here);
        Stay sent = Collections.min(here,
                (a, b) -> a.nights.headMap(s.today).size() - b.nights.headMap(s.today).size());
        sent.state = "SENT";
        post(1, -sent.deposit);
        post(0, sent.deposit);
    }

    public int setOdds(int sort, int price, int odds) {
        index(sort, 4);
        range(price, 0, 100000);
        range(odds, 0, 1000);
        int sum = odds;
        for (int i = 0; i < 4; i++) {
            sum += i == sort ? 0 : s.sorts[i][1];
        }
        argument(sum <= 1000);
        change();
        s.sorts[sort] = new int[] {price, odds};
        return sum;
    }

    public int sell(int days, int rooms) {
        range(days, 1, 4);
        range(rooms, 1, 4);
        change();
        s.saleIsOn = true;
        s.saleDays = days;
        s.saleRooms = rooms;
        s.saleRoomsAtFirst = rooms;
        s.saleIncome = 0;
        s.offers.clear();
        return limit(days, rooms);
    }

    public int offer(int price) {
        range(price, 0, 100000);
        state(s.saleIsOn && s.saleDays > 0);
        change();
        boolean isTaken = s.saleRooms > 0 && price >= limit(s.saleDays, s.saleRooms);
        s.saleDays--;
        s.offers.add(price);
        if (!isTaken) {
            return -1;
        }
        s.saleRooms--;
        s.saleIncome += price;
        return s.saleIncome;
    }

    public int undo() {
        if (before.isEmpty()) {
            return -1;
        }
        s = before.pop();
        return before.size();
    }

    // ---- parts of changes

    private void post(int book, long amount) {
        s.books[book] += amount;
    }

    private static int share(int amount, int part, int whole) {
        return new BigDecimal(amount).multiply(new BigDecimal(part))
                .divide(new BigDecimal(whole), 0, RoundingMode.HALF_UP).intValueExact();
    }

    private int taken(int kind, LocalDate night) {
        int sum = 0;
        for (Stay stay : s.stays) {
            sum += stay.kind == kind && stay.alive() && stay.nights.containsKey(night) ? 1 : 0;
        }
        return sum;
    }

    private LocalDate notHad(int kind, LocalDate first, int nights) {
        for (int i = 0; i < nights; i++) {
            LocalDate night = first.plusDays(i);
            int limit = s.kinds.get(kind).rooms + s.kinds.get(kind).extra;
            if (s.closed.contains(kind + " " + night) || taken(kind, night) >= limit) {
                return night;
            }
        }
        return null;
    }

    private LocalDate refusal(Guest guest) {
        LocalDate refused = notHad(guest.kind, guest.first, guest.nights);
        if (refused != null) {
            return refused;
        }
        for (Season season : s.seasons) {
            if (season.has(guest.first) && guest.nights < season.least) {
                return guest.first;
            }
        }
        return null;
    }

    private int stay(Guest guest, LocalDate till, int group) {
        Stay stay = new Stay();
        stay.kind = guest.kind;
        stay.adults = guest.adults;
        stay.children = guest.children;
        stay.tax = s.tax;
        stay.till = till;
        stay.group = group;
        for (int i = 0; i < guest.nights; i++) {
            LocalDate night = guest.first.plusDays(i);
            stay.nights.put(night, price(guest.kind, night));
        }
        s.stays.add(stay);
        return s.stays.size() - 1;
    }

    private int price(int kind, LocalDate night) {
        int percentage = 100;
        for (Season season : s.seasons) {
            percentage += season.has(night) ? season.percentage : 0;
        }
        String day = night.getDayOfWeek().toString();
        percentage += day.equals("FRIDAY") || day.equals("SATURDAY") ? s.weekend : 0;
        int quarters = new BigDecimal(4 * taken(kind, night))
                .divide(new BigDecimal(s.kinds.get(kind).rooms), 0, RoundingMode.DOWN).intValue();
        percentage += 10 * quarters;
        return percentage < 0 ? 0 : share(s.kinds.get(kind).price, percentage, 100);
    }

    private int look() {
        int got = 0;
        for (Guest guest : new ArrayList<>(s.guests)) {
            if (guest.first.isBefore(s.today)) {
                remove(guest);
            } else if (s.stays.size() < 60 && refusal(guest) == null) {
                stay(guest, guest.first, -1);
                remove(guest);
                got++;
            }
        }
        return got;
    }

    private void remove(Guest guest) {
        for (int i = 0; i < s.guests.size(); i++) {
            if (s.guests.get(i) == guest) {
                s.guests.remove(i);
                return;
            }
        }
    }

    // ---- dates

    public int today() {
        return number(s.today);
    }

    public int dayOfWeek(int date) {
        return date(date).getDayOfWeek().getValue();
    }

    public int addDays(int date, int days) {
        LocalDate start = date(date);
        range(days, -1000, 1000);
        LocalDate end = start.plusDays(days);
        argument(end.getYear() >= 2000 && end.getYear() <= 2099);
        return number(end);
    }

    // ---- kinds, nights, stays

    public int kinds() {
        return s.kinds.size();
    }

    public int count(int kind, int date) {
        index(kind, s.kinds.size());
        return taken(kind, date(date));
    }

    public int greatest(int kind, int from, int to) {
        index(kind, s.kinds.size());
        LocalDate first = date(from);
        LocalDate last = date(to);
        argument(!last.isBefore(first) && ChronoUnit.DAYS.between(first, last) <= 400);
        int most = 0;
        for (LocalDate night = first; !night.isAfter(last); night = night.plusDays(1)) {
            most = Math.max(most, taken(kind, night));
        }
        return most;
    }

    /** Adds rooms one by one until the stays, each as early as it can, find a place. */
    public int needed(int kind) {
        index(kind, s.kinds.size());
        int rooms = 0;
        while (Arrays.stream(rooms(kind, rooms)).anyMatch(room -> room == -1)) {
            rooms++;
        }
        return rooms;
    }

    /** The room of each stay by its number, -1 for none, -2 for a stay of another kind or that is not alive. */
    private int[] rooms(int kind, int roomCount) {
        int[] rooms = new int[s.stays.size()];
        Arrays.fill(rooms, -2);
        List<Integer> order = new ArrayList<>();
        for (int i = 0; i < s.stays.size(); i++) {
            if (s.stays.get(i).kind == kind && s.stays.get(i).alive()) {
                order.add(i);
            }
        }
        order.sort((a, b) -> s.stays.get(a).nights.firstKey().compareTo(s.stays.get(b).nights.firstKey()));
        for (int number : order) {
            rooms[number] = -1;
            for (int room = roomCount - 1; room >= 0; room--) {
                boolean isFree = true;
                for (int other : order) {
                    LocalDate first = s.stays.get(number).nights.firstKey();
                    boolean isThere = other != number && rooms[other] == room;
                    isFree &= !isThere || s.stays.get(other).nights.lastKey().isBefore(first);
                }
                rooms[number] = isFree ? room : rooms[number];
            }
        }
        return rooms;
    }

    public int refusedNight() {
        return s.refused == null ? 0 : number(s.refused);
    }

    public int stayAt(int stay, int what) {
        index(stay, s.stays.size());
        range(what, 0, 8);
        Stay row = s.stays.get(stay);
        int state = List.of("HELD", "PAID", "CANCELLED", "SENT", "OVER").indexOf(row.state);
        return new int[] {state, row.kind, number(row.nights.firstKey()), row.nights.size(), row.price(),
            row.deposit, row.taxSum(), row.group, number(row.till)}[what];
    }

    public int roomOf(int stay) {
        index(stay, s.stays.size());
        Stay row = s.stays.get(stay);
        state(row.alive());
        return rooms(row.kind, s.kinds.get(row.kind).rooms)[stay];
    }

    public int priceOf(int kind, int date) {
        index(kind, s.kinds.size());
        return price(kind, date(date));
    }

    public int refund(int stay) {
        index(stay, s.stays.size());
        Stay row = s.stays.get(stay);
        long days = ChronoUnit.DAYS.between(s.today, row.nights.firstKey());
        if (!row.state.equals("PAID")) {
            return 0;
        }
        return days >= 14 ? row.deposit : days >= 3 ? share(row.deposit, 1, 2) : 0;
    }

    public long book(int book) {
        index(book, 4);
        return s.books[book];
    }

    public int waiting() {
        return s.guests.size();
    }

    // ---- offers

    private BigDecimal income(int days, int rooms) {
        if (days == 0 || rooms == 0) {
            return BigDecimal.ZERO;
        }
        BigDecimal left = income(days - 1, rooms);
        BigDecimal taken = income(days - 1, rooms - 1);
        BigDecimal none = BigDecimal.ONE;
        BigDecimal sum = BigDecimal.ZERO;
        for (int[] sort : s.sorts) {
            BigDecimal odds = new BigDecimal(sort[1]).divide(THOUSAND);
            none = none.subtract(odds);
            sum = sum.add(odds.multiply(left.max(taken.add(new BigDecimal(sort[0])))));
        }
        return sum.add(none.multiply(left));
    }

    public long awaited(int days, int rooms) {
        range(days, 0, 4);
        range(rooms, 0, 5);
        return income(days, rooms).multiply(THOUSAND.pow(days)).longValueExact();
    }

    public int limit(int days, int rooms) {
        range(days, 1, 4);
        range(rooms, 1, 4);
        return income(days - 1, rooms).subtract(income(days - 1, rooms - 1))
                .setScale(0, RoundingMode.CEILING).intValueExact();
    }

    public int saleAt(int what) {
        range(what, 0, 3);
        state(s.saleIsOn);
        List<Integer> prices = new ArrayList<>(s.offers);
        prices.sort(Collections.reverseOrder());
        int best = 0;
        for (int i = 0; i < Math.min(prices.size(), s.saleRoomsAtFirst); i++) {
            best += prices.get(i);
        }
        return new int[] {s.saleDays, s.saleRooms, s.saleIncome, best}[what];
    }

    public int moreToSell(int kind, int odds, int risk) {
        index(kind, s.kinds.size());
        range(odds, 0, 1000);
        range(risk, 0, 1000);
        int rooms = s.kinds.get(kind).rooms;
        int greatest = 0;
        for (int more = 0; more <= 3; more++) {
            BigInteger sum = BigInteger.ZERO;
            for (int come = rooms + 1; come <= rooms + more; come++) {
                sum = sum.add(oddsThat(come, rooms + more, odds));
            }
            if (sum.compareTo(BigInteger.valueOf(risk).multiply(BigInteger.TEN.pow(3 * (rooms + more - 1)))) <= 0) {
                greatest = more;
            }
        }
        return greatest;
    }

    /** Goes through all sets of stays that come; times 1000 to the power of all. */
    private static BigInteger oddsThat(int come, int all, int odds) {
        BigInteger one = BigInteger.valueOf(odds).pow(come).multiply(BigInteger.valueOf(1000 - odds).pow(all - come));
        int sets = 0;
        for (int set = 0; set < 1 << all; set++) {
            sets += Integer.bitCount(set) == come ? 1 : 0;
        }
        return one.multiply(BigInteger.valueOf(sets));
    }

    // ---- housekeepers and reports

    private List<Integer> roomMinutes(int date) {
        LocalDate night = date(date).minusDays(1);
        List<Integer> all = new ArrayList<>();
        for (int kind = 0; kind < s.kinds.size(); kind++) {
            int[] rooms = rooms(kind, s.kinds.get(kind).rooms);
            for (int room = 0; room < s.kinds.get(kind).rooms; room++) {
                int needs = 0;
                for (int i = 0; i < rooms.length; i++) {
                    if (rooms[i] == room && s.stays.get(i).nights.containsKey(night)) {
                        needs = Math.max(needs, s.stays.get(i).nights.lastKey().equals(night) ? 45 : 20);
                    }
                }
                if (needs > 0) {
                    all.add(needs);
                }
            }
        }
        return all;
    }

    public int minutes(int date) {
        return roomMinutes(date).stream().mapToInt(Integer::intValue).sum();
    }

    public int rounds(int date) {
        List<Integer> all = roomMinutes(date);
        all.sort(Collections.reverseOrder());
        int rounds = 0;
        while (!fits(all, 0, new int[rounds])) {
            rounds++;
        }
        return rounds;
    }

    private static boolean fits(List<Integer> all, int next, int[] used) {
        if (next == all.size()) {
            return true;
        }
        Set<Integer> tried = new HashSet<>();
        for (int i = 0; i < used.length; i++) {
            if (used[i] + all.get(next) <= 120 && tried.add(used[i])) {
                used[i] += all.get(next);
                boolean done = fits(all, next + 1, used);
                used[i] -= all.get(next);
                if (done) {
                    return true;
                }
            }
        }
        return false;
    }

    private List<Integer> monthPrices(int month) {
        argument(month >= 200001 && month <= 209912 && month % 100 >= 1 && month % 100 <= 12);
        List<Integer> prices = new ArrayList<>();
        for (Stay stay : s.stays) {
            if (stay.state.equals("PAID") || stay.state.equals("OVER")) {
                stay.nights.forEach((night, price) -> {
                    if (night.getYear() * 100 + night.getMonthValue() == month) {
                        prices.add(price);
                    }
                });
            }
        }
        return prices;
    }

    public int monthNights(int month) {
        return monthPrices(month).size();
    }

    public long monthIncome(int month) {
        return monthPrices(month).stream().mapToLong(Integer::longValue).sum();
    }

    // ---- measures and the second way

    public double meanPrice() {
        long prices = 0;
        long nights = 0;
        for (Stay stay : s.stays) {
            prices += stay.alive() ? stay.price() : 0;
            nights += stay.alive() ? stay.nights.size() : 0;
        }
        return nights == 0 ? 0.0 : (double) prices / (double) nights;
    }

    public float share(int kind, int date) {
        return (float) count(kind, date) / (float) s.kinds.get(kind).rooms;
    }

    public int checksum() {
        BigInteger sum = BigInteger.valueOf(17);
        for (int i = 0; i < s.stays.size(); i++) {
            for (int what : new int[] {0, 4, 3}) {
                sum = sum.multiply(BigInteger.valueOf(31)).add(BigInteger.valueOf(stayAt(i, what)));
            }
        }
        return sum.multiply(BigInteger.valueOf(31)).add(BigInteger.valueOf(today())).intValue();
    }

    public int errors() {
        return 0;
    }
}
