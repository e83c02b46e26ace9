/** Section 1: dates, and money. */
final class Section01DatesTest {
    private static final int[] DAYS_IN_MONTH = {31, 28, 31, 30, 31, 30, 31, 31, 30, 31, 30, 31};

    private Section01DatesTest() {
    }

    private static boolean isDate(int number) {
        try {
            new HotelNights().dayOfWeek(number);
            return true;
        } catch (IllegalArgumentException e) {
            return false;
        }
    }

    private static void section01TheFirstYearIs2000() {
        Check.same("20000101 is a date", isDate(20000101), true);
        Check.same("19991231 is a date", isDate(19991231), false);
        Check.same("19990101 is a date", isDate(19990101), false);
    }

    private static void section01TheLastYearIs2099() {
        Check.same("20991231 is a date", isDate(20991231), true);
        Check.same("21000101 is a date", isDate(21000101), false);
        Check.same("21001231 is a date", isDate(21001231), false);
    }

    private static void section01TheFirstMonthIs1() {
        Check.same("20240101 is a date", isDate(20240101), true);
        Check.same("20240001 is a date", isDate(20240001), false);
    }

    private static void section01TheLastMonthIs12() {
        Check.same("20241201 is a date", isDate(20241201), true);
        Check.same("20241301 is a date", isDate(20241301), false);
        Check.same("20249901 is a date", isDate(20249901), false);
    }

    private static void section01TheFirstDayIs1() {
        for (int month = 1; month <= 12; month++) {
            Check.same("day 1 of month " + month, isDate(20240000 + month * 100 + 1), true);
            Check.same("day 0 of month " + month, isDate(20240000 + month * 100), false);
        }
    }

    private static void section01TheLastDayOfAMonth() {
        for (int month = 1; month <= 12; month++) {
            int last = 20230000 + month * 100 + DAYS_IN_MONTH[month - 1];
            Check.same(last + " is a date", isDate(last), true);
            Check.same(last + 1 + " is a date", isDate(last + 1), false);
        }
    }

    private static void section01TheNextDateBehindTheLastDayOfAMonth() {
        HotelNights hotel = new HotelNights();
        for (int month = 1; month < 12; month++) {
            int last = 20230000 + month * 100 + DAYS_IN_MONTH[month - 1];
            int next = 20230000 + (month + 1) * 100 + 1;
            Check.same("a day behind " + last, hotel.addDays(last, 1), next);
            Check.same("a day ahead of " + next, hotel.addDays(next, -1), last);
        }
    }

    private static void section01TheNextDateBehindTheLastDayOfAYear() {
        HotelNights hotel = new HotelNights();
        for (int year = 2000; year < 2099; year++) {
            int last = year * 10000 + 1231;
            int next = (year + 1) * 10000 + 101;
            Check.same("a day behind " + last, hotel.addDays(last, 1), next);
            Check.same("a day ahead of " + next, hotel.addDays(next, -1), last);
        }
    }

    private static void section01FebruaryInALeapYear() {
        HotelNights hotel = new HotelNights();
        for (int year = 2000; year <= 2096; year += 4) {
            Check.same("29th of " + year, isDate(year * 10000 + 229), true);
            Check.same("30th of " + year, isDate(year * 10000 + 230), false);
            Check.same("behind the 28th", hotel.addDays(year * 10000 + 228, 1), year * 10000 + 229);
            Check.same("behind the 29th", hotel.addDays(year * 10000 + 229, 1), year * 10000 + 301);
            Check.same("ahead of the 1st", hotel.addDays(year * 10000 + 301, -1), year * 10000 + 229);
        }
    }

    private static void section01FebruaryInAnotherYear() {
        HotelNights hotel = new HotelNights();
        for (int year = 2001; year <= 2099; year++) {
            if (year % 4 != 0) {
                Check.same("28th of " + year, isDate(year * 10000 + 228), true);
                Check.same("29th of " + year, isDate(year * 10000 + 229), false);
                Check.same("behind the 28th", hotel.addDays(year * 10000 + 228, 1), year * 10000 + 301);
                Check.same("ahead of the 1st", hotel.addDays(year * 10000 + 301, -1), year * 10000 + 228);
            }
        }
    }

    private static void section01NumbersOfAnotherForm() {
        for (int number : Edges.NO_DATES) {
            Check.same(number + " is a date", isDate(number), false);
        }
        Check.same("a date below 0", isDate(-20240226), false);
        Check.same("a number that wraps to a year of 2024", isDate(20240226 + (1 << 31)), false);
    }

    private static void section01TodayIsAtFirst20240226() {
        HotelNights hotel = new HotelNights();
        Check.same("today", hotel.today(), 20240226);
        Check.same("a Monday", hotel.dayOfWeek(20240226), 1);
    }

    private static void section01ANightIsToldByTheDateOnWhichItBegins() {
        HotelNights hotel = new HotelNights();
        Hotels.ask(hotel, 0, 20240229, 1);
        Check.same("the night ahead", hotel.count(0, 20240228), 0);
        Check.same("the night", hotel.count(0, 20240229), 1);
        Check.same("the date on which it ends", hotel.count(0, 20240301), 0);
    }

    private static void section01AHalfOfACentIsRoundedUp() {
        HotelNights hotel = new HotelNights();
        hotel.addKind(1, 101);
        hotel.addSeason(301, 301, -50, 1);
        Check.same("50.5", hotel.priceOf(2, 20240301), 51);
        hotel.addSeason(302, 302, 50, 1);
        Check.same("151.5", hotel.priceOf(2, 20240302), 152);
    }

    private static void section01LessThanAHalfOfACentIsRoundedDown() {
        HotelNights hotel = new HotelNights();
        hotel.addKind(1, 101);
        hotel.addSeason(301, 301, 49, 1);
        Check.same("150.49", hotel.priceOf(2, 20240301), 150);
        hotel.addSeason(302, 302, -49, 1);
        Check.same("51.51", hotel.priceOf(2, 20240302), 52);
    }

    private static void section01AWholeAmountIsNotRounded() {
        HotelNights hotel = new HotelNights();
        hotel.addKind(1, 102);
        hotel.addSeason(301, 301, -50, 1);
        Check.same("51", hotel.priceOf(2, 20240301), 51);
    }
}
