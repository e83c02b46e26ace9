import java.time.LocalDate;

/** Promises 20 to 22: today and dates. */
final class DatesTest {
    private DatesTest() {
    }

    private static void promise20Today() {
        HotelNights hotel = new HotelNights();
        Check.same("today", hotel.today(), 20240226);
        hotel.passes(4);
        Check.same("today", hotel.today(), 20240301);
        hotel.undo();
        Check.same("today", hotel.today(), 20240226);
    }

    private static void promise21DayOfWeek() {
        HotelNights hotel = new HotelNights();
        LocalDate end = LocalDate.of(2100, 1, 1);
        for (LocalDate date = LocalDate.of(2000, 1, 1); date.isBefore(end); date = date.plusDays(1)) {
            int number = Look.toNumber(date);
            Check.same("day of " + number, hotel.dayOfWeek(number), date.getDayOfWeek().getValue());
        }
        for (int date : Edges.NO_DATES) {
            Check.noArgument(hotel, "no date " + date, () -> hotel.dayOfWeek(date));
        }
    }

    private static void promise22LengthsOfMonths() {
        HotelNights hotel = new HotelNights();
        for (int year = 2000; year <= 2099; year++) {
            for (int month = 1; month <= 12; month++) {
                int start = year * 10000 + month * 100;
                int length = LocalDate.of(year, month, 1).lengthOfMonth();
                Check.same("last day", hotel.addDays(start + length, 0), start + length);
                Check.same("day 0 is a date", isDate(hotel, start), false);
                Check.same("a day too many is a date", isDate(hotel, start + length + 1), false);
            }
        }
    }

    private static boolean isDate(HotelNights hotel, int date) {
        try {
            hotel.addDays(date, 0);
            return true;
        } catch (IllegalArgumentException e) {
            return false;
        }
    }

    private static void promise22AddDays() {
        HotelNights hotel = new HotelNights();
        LocalDate end = LocalDate.of(2100, 1, 1);
        for (LocalDate date = LocalDate.of(2000, 1, 1); date.isBefore(end); date = date.plusDays(1)) {
            int number = Look.toNumber(date);
            int next = date.isBefore(end.minusDays(1)) ? Look.toNumber(date.plusDays(1)) : number;
            Check.same("0 days behind " + number, hotel.addDays(number, 0), number);
            Check.same("1 day ahead of " + next, hotel.addDays(next, number == next ? 0 : -1), number);
        }
        Check.same("1000 days", hotel.addDays(20240226, 1000), 20261122);
        Check.same("-1000 days", hotel.addDays(20261122, -1000), 20240226);
        Check.same("to the last date", hotel.addDays(20991230, 1), 20991231);
        Check.same("to the first date", hotel.addDays(20000102, -1), 20000101);
        Check.noArgument(hotel, "behind the last date", () -> hotel.addDays(20991231, 1));
        Check.noArgument(hotel, "ahead of the first date", () -> hotel.addDays(20000101, -1));
        Check.noArgument(hotel, "1001 days", () -> hotel.addDays(20240226, 1001));
        Check.noArgument(hotel, "-1001 days", () -> hotel.addDays(20240226, -1001));
        Check.noArgument(hotel, "most days", () -> hotel.addDays(20240226, Integer.MAX_VALUE));
        for (int date : Edges.NO_DATES) {
            Check.noArgument(hotel, "no date " + date, () -> hotel.addDays(date, 0));
        }
    }
}
