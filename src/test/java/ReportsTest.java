/** Promises 38 to 45: housekeepers, reports, measures, and the second way. */
final class ReportsTest {
    private static final int[] NO_MONTHS = {0, -1, 202400, 202413, 199912, 210001, 20240101, -202401,
        Integer.MIN_VALUE, Integer.MAX_VALUE};

    private ReportsTest() {
    }

    private static void promise38Minutes() {
        HotelNights hotel = new HotelNights();
        hotel.setExtra(1, 1);
        hotel.ask(0, 20240301, 2, 1, 0, 20240301);
        hotel.ask(0, 20240302, 1, 1, 0, 20240301);
        hotel.ask(0, 20240303, 1, 1, 0, 20240301);
        hotel.ask(1, 20240301, 1, 1, 0, 20240301);
        hotel.ask(1, 20240301, 3, 1, 0, 20240301);
        int[][] due = {{20240301, 0}, {20240302, 20 + 45}, {20240303, 45 + 45}, {20240304, 45}, {20240305, 0}};
        for (int[] pair : due) {
            Check.same("minutes on " + pair[0], hotel.minutes(pair[0]), pair[1]);
        }
        Check.same("a stay without a room needs none", hotel.roomOf(4), HotelNights.NONE);
        Check.same("first date of all", hotel.minutes(20000101), 0);
        Check.same("last date of all", hotel.minutes(20991231), 0);
        Check.noArgument(hotel, "no date", () -> hotel.minutes(20240230));
        hotel.cancel(0);
        Check.same("cancelled", hotel.minutes(20240302), 45);
    }

    private static void promise39Rounds() {
        HotelNights hotel = new HotelNights();
        Check.same("none", hotel.rounds(20240302), 0);
        hotel.group(0, 3, 20240301, 1, 20240301);
        Check.same("three of 45", hotel.rounds(20240302), 2);
        hotel.ask(1, 20240301, 2, 1, 0, 20240301);
        Check.same("and one of 20", hotel.rounds(20240302), 2);
        Check.same("one of 45", hotel.rounds(20240303), 1);
        Check.same("first date of all", hotel.rounds(20000101), 0);
        Check.noArgument(hotel, "no date", () -> hotel.rounds(20240000));
    }

    /** All numbers of rooms of both sorts that two kinds of six rooms can have, by trying all ways to fill rounds. */
    private static void promise39RoundsOfAllMixtures() {
        for (int longs = 0; longs <= 9; longs++) {
            for (int shorts = 0; longs + shorts <= 9; shorts++) {
                HotelNights hotel = new HotelNights();
                hotel.addKind(6, 100);
                for (int i = 0; i < longs + shorts; i++) {
                    hotel.ask(i < 6 ? 2 : 0, 20240301, i < longs ? 1 : 2, 1, 0, 20240301);
                }
                String what = longs + " of 45 and " + shorts + " of 20";
                Check.same("minutes of " + what, hotel.minutes(20240302), 45 * longs + 20 * shorts);
                Check.same("rounds of " + what, hotel.rounds(20240302), fewest(longs, shorts));
            }
        }
    }

    private static int fewest(int longs, int shorts) {
        if (longs + shorts == 0) {
            return 0;
        }
        int least = Integer.MAX_VALUE;
        for (int a = 0; a <= longs; a++) {
            for (int b = 0; b <= shorts; b++) {
                if (a + b > 0 && 45 * a + 20 * b <= 120) {
                    least = Math.min(least, 1 + fewest(longs - a, shorts - b));
                }
            }
        }
        return least;
    }

    /** A stay that is over, one that is paid over the end of February, one held, one cancelled, one sent away. */
    private static HotelNights withStaysOfAllStates() {
        HotelNights hotel = new HotelNights();
        hotel.setExtra(1, 1);
        hotel.ask(0, 20240226, 1, 1, 0, 20240226);
        hotel.ask(1, 20240228, 4, 1, 0, 20240228);
        hotel.ask(0, 20240301, 2, 1, 0, 20240301);
        hotel.ask(0, 20240301, 3, 1, 0, 20240301);
        hotel.ask(1, 20240228, 1, 1, 0, 20240228);
        for (int stay : new int[] {0, 1, 3, 4}) {
            hotel.pay(stay);
        }
        hotel.cancel(3);
        hotel.passes(2);
        int[] states = {HotelNights.OVER, HotelNights.PAID, HotelNights.HELD, HotelNights.CANCELLED,
            HotelNights.SENT};
        for (int stay = 0; stay < states.length; stay++) {
            Check.same("state of " + stay, hotel.stayAt(stay, 0), states[stay]);
        }
        return hotel;
    }

    private static void promise40MonthNights() {
        HotelNights hotel = withStaysOfAllStates();
        Check.same("February", hotel.monthNights(202402), 1 + 2);
        Check.same("March", hotel.monthNights(202403), 2);
        Check.same("April", hotel.monthNights(202404), 0);
        Check.same("another year", hotel.monthNights(202302), 0);
        Check.same("first month of all", hotel.monthNights(200001), 0);
        Check.same("last month of all", hotel.monthNights(209912), 0);
        hotel.ask(0, 20241225, 14, 1, 0, 20240301);
        hotel.pay(5);
        Check.same("December", hotel.monthNights(202412), 7);
        Check.same("January", hotel.monthNights(202501), 7);
        hotel.passes(31);
        hotel.ask(0, 20250220, 14, 1, 0, 20240401);
        hotel.pay(6);
        Check.same("February of 28 days", hotel.monthNights(202502), 9);
        Check.same("March behind it", hotel.monthNights(202503), 5);
        Check.same("income of February", hotel.monthIncome(202502), 90000);
        for (int month : NO_MONTHS) {
            Check.noArgument(hotel, "no month " + month, () -> hotel.monthNights(month));
        }
    }

    private static void promise41MonthIncome() {
        HotelNights hotel = withStaysOfAllStates();
        Check.same("February", hotel.monthIncome(202402), 10000 + 50000);
        Check.same("March", hotel.monthIncome(202403), 50000);
        hotel.setWeekend(100, 0);
        hotel.longer(1, 1);
        Check.same("with another night", hotel.monthIncome(202403), 75000);
        hotel.shorter(1, 2);
        Check.same("with two nights less", hotel.monthIncome(202403), 25000);
        Check.same("first month of all", hotel.monthIncome(200001), 0);
        Check.same("last month of all", hotel.monthIncome(209912), 0);
        hotel.setExtra(0, 0);
        hotel.ask(0, 20240330, 4, 1, 0, 20240301);
        hotel.pay(5);
        Check.same("the price of each night", hotel.monthIncome(202404), 20000);
        Check.same("Saturday and Sunday", hotel.monthIncome(202403), 25000 + 20000 + 10000);
        for (int month : NO_MONTHS) {
            Check.noArgument(hotel, "no month " + month, () -> hotel.monthIncome(month));
        }
    }

    private static void promise42MeanPrice() {
        HotelNights hotel = new HotelNights();
        Check.same("without stays", hotel.meanPrice(), 0.0);
        hotel.ask(0, 20240301, 2, 1, 0, 20240301);
        Check.same("one stay", hotel.meanPrice(), 10000.0);
        hotel.shorter(0, 1);
        Check.same("one night", hotel.meanPrice(), 10000.0);
        hotel.undo();
        hotel.ask(0, 20240302, 1, 1, 0, 20240301);
        Check.same("two stays", hotel.meanPrice(), 31000.0 / 3.0);
        hotel.ask(1, 20240303, 4, 1, 0, 20240301);
        hotel.pay(2);
        Check.same("three stays", hotel.meanPrice(), 131000.0 / 7.0);
        hotel.cancel(2);
        Check.same("cancelled ones do not count", hotel.meanPrice(), 31000.0 / 3.0);
        hotel.cancel(0);
        hotel.cancel(1);
        Check.same("none is alive", hotel.meanPrice(), 0.0);
    }

    private static void promise43Share() {
        HotelNights hotel = new HotelNights();
        Check.same("none", hotel.share(0, 20240301), 0.0f);
        hotel.ask(0, 20240301, 1, 1, 0, 20240301);
        Check.same("a third", hotel.share(0, 20240301), 1.0f / 3.0f);
        hotel.ask(0, 20240301, 1, 1, 0, 20240301);
        Check.same("two thirds", hotel.share(0, 20240301), 2.0f / 3.0f);
        hotel.setExtra(1, 2);
        hotel.group(1, 3, 20240301, 1, 20240301);
        Check.same("beyond the rooms", hotel.share(1, 20240301), 3.0f);
        Check.same("another night", hotel.share(1, 20240302), 0.0f);
        Check.noIndex(hotel, "kind 2", () -> hotel.share(2, 20240301));
        Check.noIndex(hotel, "index ahead of argument", () -> hotel.share(-1, 0));
        Check.noArgument(hotel, "no date", () -> hotel.share(0, 20240230));
    }

    private static void promise44Checksum() {
        HotelNights hotel = new HotelNights();
        Check.same("without stays", hotel.checksum(), 17 * 31 + 20240226);
        hotel.ask(0, 20240301, 2, 1, 0, 20240301);
        int one = ((17 * 31 + HotelNights.HELD) * 31 + 20000) * 31 + 2;
        Check.same("one stay", hotel.checksum(), one * 31 + 20240226);
        hotel.pay(0);
        hotel.ask(1, 20240302, 1, 1, 0, 20240301);
        hotel.cancel(1);
        int paid = ((17 * 31 + HotelNights.PAID) * 31 + 20000) * 31 + 2;
        int two = ((paid * 31 + HotelNights.CANCELLED) * 31 + 25000) * 31 + 1;
        Check.same("two stays", hotel.checksum(), two * 31 + 20240226);
        hotel.passes(1);
        Check.same("tomorrow", hotel.checksum(), two * 31 + 20240227);
    }

    private static void promise45Errors() {
        HotelNights hotel = withStaysOfAllStates();
        Check.same("all states", hotel.errors(), 0);
        hotel.setExtra(0, 3);
        hotel.setExtra(1, 3);
        hotel.group(0, 6, 20240305, 3, 20240301);
        hotel.group(1, 4, 20240305, 1, 20240301);
        Check.same("beyond the rooms", hotel.errors(), 0);
        hotel.pay(5);
        hotel.passes(20);
        Check.same("three weeks on", hotel.errors(), 0);
        Check.same("a new object", new HotelNights().errors(), 0);
    }
}
