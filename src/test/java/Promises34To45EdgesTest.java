/** Promises 34 to 45: each range, each exception, and their order. */
final class Promises34To45EdgesTest {
    /** The last ones are 202402 beyond a quarter, a half and three quarters of what an int can tell. */
    private static final int[] NO_MONTHS = {199912, 200000, 200013, 202400, 202413, 202499, 209900, 209913, 210001,
        0, 1, 12, -1, -202402, 2024, 20240226, Integer.MIN_VALUE, Integer.MAX_VALUE, 202402 + (1 << 30),
        202402 + (1 << 31), 202402 - (1 << 30)};

    private Promises34To45EdgesTest() {
    }

    private static void promise34DaysAre0To4() {
        Edges.range(Hotels::busy, 0, 4, (hotel, days) -> hotel.awaited(days, 1));
    }

    private static void promise34RoomsAre0To5() {
        Edges.range(Hotels::busy, 0, 5, (hotel, rooms) -> hotel.awaited(1, rooms));
    }

    private static void promise34ZeroWithoutADayOrARoom() {
        HotelNights hotel = Hotels.withTwoSorts();
        Check.same("neither", hotel.awaited(0, 0), 0);
        Check.same("no day", hotel.awaited(0, 5), 0);
        Check.same("no room", hotel.awaited(4, 0), 0);
    }

    private static void promise34TimesAThousandToThePowerOfTheDays() {
        HotelNights hotel = new HotelNights();
        hotel.setOdds(0, 1, 1000);
        long due = 1;
        for (int days = 1; days <= 4; days++) {
            due *= 1000;
            Check.same("one room, days " + days, hotel.awaited(days, 1), due);
            Check.same("five rooms, days " + days, hotel.awaited(days, 5), due * days);
        }
    }

    private static void promise34TheLeastAboveZero() {
        HotelNights hotel = new HotelNights();
        hotel.setOdds(2, 1, 1);
        Check.same("one day", hotel.awaited(1, 1), 1);
        Check.same("two days, one room", hotel.awaited(2, 1), 1999);
        Check.same("two days, two rooms", hotel.awaited(2, 2), 2000);
    }

    private static void promise34TheGreatest() {
        HotelNights hotel = new HotelNights();
        for (int sort = 0; sort < 4; sort++) {
            hotel.setOdds(sort, 100000, 250);
        }
        Check.same("four days, four rooms", hotel.awaited(4, 4), 400000000000000000L);
    }

    private static void promise35DaysAre1To4() {
        Edges.range(Hotels::busy, 1, 4, (hotel, days) -> hotel.limit(days, 1));
    }

    private static void promise35RoomsAre1To4() {
        Edges.range(Hotels::busy, 1, 4, (hotel, rooms) -> hotel.limit(1, rooms));
    }

    private static void promise35TheGreatestLimit() {
        HotelNights hotel = new HotelNights();
        hotel.setOdds(0, 100000, 1000);
        Check.same("a day behind today", hotel.limit(2, 1), 100000);
        Check.same("today alone", hotel.limit(1, 1), 0);
    }

    private static HotelNights withASale() {
        HotelNights hotel = Hotels.withTwoSorts();
        hotel.sell(3, 2);
        return hotel;
    }

    private static void promise36WhatIs0To3() {
        Edges.range(Promises34To45EdgesTest::withASale, 0, 3, (hotel, what) -> hotel.saleAt(what));
    }

    private static void promise36ThrowsIfThereIsNoSale() {
        for (int what = 0; what <= 3; what++) {
            int number = what;
            Edges.noState(Hotels::withTwoSorts, "what " + what, hotel -> hotel.saleAt(number));
        }
    }

    private static void promise36AnArgumentComesAheadOfTheState() {
        Edges.noArgument(HotelNights::new, "what 4", hotel -> hotel.saleAt(4));
        Edges.noArgument(HotelNights::new, "what -1", hotel -> hotel.saleAt(-1));
    }

    private static void promise36ASaleWithoutADayLeftIsTold() {
        HotelNights hotel = new HotelNights();
        hotel.sell(1, 1);
        hotel.offer(9);
        int[] due = {0, 0, 9, 9};
        for (int what = 0; what < 4; what++) {
            Check.same("what " + what, hotel.saleAt(what), due[what]);
        }
    }

    private static void promise37KindIs0To1() {
        Edges.indexes(Hotels::busy, 2, (hotel, kind) -> hotel.moreToSell(kind, 500, 500));
        Edges.indexes(Hotels::withSixRooms, 3, (hotel, kind) -> hotel.moreToSell(kind, 500, 500));
    }

    private static void promise37OddsAre0To1000() {
        Edges.range(Hotels::busy, 0, 1000, (hotel, odds) -> hotel.moreToSell(0, odds, 500));
    }

    private static void promise37RiskIs0To1000() {
        Edges.range(Hotels::busy, 0, 1000, (hotel, risk) -> hotel.moreToSell(0, 500, risk));
    }

    private static void promise37AnIndexComesAheadOfAnArgument() {
        Edges.noIndex(Hotels::busy, "odds", hotel -> hotel.moreToSell(2, 1001, 0));
        Edges.noIndex(Hotels::busy, "risk", hotel -> hotel.moreToSell(-1, 0, -1));
    }

    private static void promise37NoStayComes() {
        HotelNights hotel = Hotels.withSixRooms();
        for (int kind = 0; kind < 3; kind++) {
            Check.same("no risk", hotel.moreToSell(kind, 0, 0), 3);
        }
    }

    private static void promise37EachStayComes() {
        HotelNights hotel = Hotels.withSixRooms();
        for (int kind = 0; kind < 3; kind++) {
            Check.same("a risk of 999", hotel.moreToSell(kind, 1000, 999), 0);
            Check.same("a risk of 1000", hotel.moreToSell(kind, 1000, 1000), 3);
        }
    }

    private static void promise37ARiskOf0() {
        HotelNights hotel = Hotels.withSixRooms();
        for (int kind = 0; kind < 3; kind++) {
            Check.same("odds of 1", hotel.moreToSell(kind, 1, 0), 0);
        }
    }

    private static void promise37OddsThatAreJustTheRisk() {
        HotelNights hotel = new HotelNights();
        Check.same("one more: 0.25", hotel.moreToSell(1, 500, 250), 1);
        Check.same("two more: 0.5", hotel.moreToSell(1, 500, 500), 2);
        Check.same("three more, below 0.6875", hotel.moreToSell(1, 500, 687), 2);
        Check.same("three more, above it", hotel.moreToSell(1, 500, 688), 3);
    }

    private static void promise37OddsThatAreJustAboveTheRisk() {
        HotelNights hotel = new HotelNights();
        Check.same("one more: 0.25", hotel.moreToSell(1, 500, 249), 0);
        Check.same("two more: 0.5", hotel.moreToSell(1, 500, 499), 1);
    }

    private static void promise37TheExtraDoesNotMatter() {
        HotelNights hotel = new HotelNights();
        hotel.setExtra(1, 3);
        Check.same("one more", hotel.moreToSell(1, 500, 250), 1);
    }

    private static void promise38ThrowsIfDateIsNoDate() {
        Edges.dates(Hotels::busy, (hotel, date) -> hotel.minutes(date));
    }

    private static void promise38RoomsOfAllKinds() {
        HotelNights hotel = Hotels.withSixRooms();
        Check.same("none", hotel.minutes(20240302), 0);
        hotel.group(0, 3, 20240301, 1, 20240301);
        Check.same("kind 0", hotel.minutes(20240302), 135);
        hotel.group(1, 1, 20240301, 2, 20240301);
        Check.same("kind 1, too", hotel.minutes(20240302), 155);
        hotel.group(2, 6, 20240301, 2, 20240301);
        Check.same("kind 2, too", hotel.minutes(20240302), 275);
        Check.same("a day on", hotel.minutes(20240303), 7 * 45);
    }

    private static void promise39ThrowsIfDateIsNoDate() {
        Edges.dates(Hotels::busy, (hotel, date) -> hotel.rounds(date));
    }

    private static void promise39NoRoundForNoRoom() {
        Check.same("rounds", new HotelNights().rounds(20240302), 0);
    }

    private static void promise39OneRoundForOneRoom() {
        HotelNights hotel = new HotelNights();
        Hotels.ask(hotel, 0, 20240301, 2);
        Check.same("20 minutes", hotel.rounds(20240302), 1);
        Check.same("45 minutes", hotel.rounds(20240303), 1);
    }

    private static void promise40ThrowsIfItIsNoMonth() {
        for (int month : NO_MONTHS) {
            Edges.noArgument(Hotels::busy, "month " + month, hotel -> hotel.monthNights(month));
        }
    }

    private static void promise40TheFirstAndTheLastMonth() {
        Check.same("first", Hotels.busy().monthNights(200001), 0);
        Check.same("last", Hotels.busy().monthNights(209912), 0);
    }

    private static void promise40EachMonthOfAYear() {
        HotelNights hotel = new HotelNights();
        int[] firsts = {20240331, 20240430, 20240531, 20240630, 20240731, 20240831, 20240930, 20241031, 20241130,
            20241231, 20250131};
        for (int first : firsts) {
            Hotels.paid(hotel, 0, first, 3);
        }
        Check.same("March", hotel.monthNights(202403), 1);
        for (int month = 4; month <= 12; month++) {
            Check.same("month " + month, hotel.monthNights(202400 + month), 3);
        }
        Check.same("January", hotel.monthNights(202501), 3);
        Check.same("February", hotel.monthNights(202502), 2);
    }

    private static void promise40TheLastNightOfFebruaryInALeapYear() {
        HotelNights hotel = new HotelNights();
        Hotels.paid(hotel, 0, 20240228, 3);
        Check.same("28 and 29", hotel.monthNights(202402), 2);
        Check.same("1", hotel.monthNights(202403), 1);
    }

    private static void promise40TheLastNightOfFebruaryInAnotherYear() {
        HotelNights hotel = new HotelNights();
        hotel.passes(31);
        Hotels.paid(hotel, 0, 20250227, 3);
        Check.same("27 and 28", hotel.monthNights(202502), 2);
        Check.same("1", hotel.monthNights(202503), 1);
    }

    private static void promise40OnlyPaidOrOver() {
        HotelNights held = new HotelNights();
        Hotels.ask(held, 0, 20240301, 2);
        Check.same("held", held.monthNights(202403), 0);
        held.pay(0);
        Check.same("paid", held.monthNights(202403), 2);
        held.cancel(0);
        Check.same("cancelled", held.monthNights(202403), 0);
        Check.same("over", Hotels.withOneOver().monthNights(202402), 2);
        Check.same("sent away, and one that is paid", Hotels.withOneSentAway().monthNights(202402), 2);
    }

    private static void promise41ThrowsIfItIsNoMonth() {
        for (int month : NO_MONTHS) {
            Edges.noArgument(Hotels::busy, "month " + month, hotel -> hotel.monthIncome(month));
        }
    }

    private static void promise41TheFirstAndTheLastMonth() {
        Check.same("first", Hotels.busy().monthIncome(200001), 0);
        Check.same("last", Hotels.busy().monthIncome(209912), 0);
    }

    private static void promise41TheNightsOfThisMonthAlone() {
        HotelNights hotel = new HotelNights();
        hotel.addSeason(301, 301, 50, 1);
        Hotels.paid(hotel, 0, 20240228, 4);
        Check.same("February", hotel.monthIncome(202402), 20000);
        Check.same("March", hotel.monthIncome(202403), 15000 + 10000);
        Check.same("April", hotel.monthIncome(202404), 0);
    }

    private static void promise41OnlyPaidOrOver() {
        HotelNights held = new HotelNights();
        Hotels.ask(held, 0, 20240301, 2);
        Check.same("held", held.monthIncome(202403), 0);
        held.pay(0);
        Check.same("paid", held.monthIncome(202403), 20000);
        held.cancel(0);
        Check.same("cancelled, without a refund of all", held.monthIncome(202403), 0);
        Check.same("over", Hotels.withOneOver().monthIncome(202402), 20000);
        Check.same("sent away, and one that is paid", Hotels.withOneSentAway().monthIncome(202402), 60000);
    }

    private static void promise41NightsThatCameAndWent() {
        HotelNights hotel = new HotelNights();
        Hotels.paid(hotel, 0, 20240331, 1);
        hotel.longer(0, 3);
        Check.same("April", hotel.monthIncome(202404), 30000);
        hotel.shorter(0, 2);
        Check.same("April, shorter", hotel.monthIncome(202404), 10000);
        Check.same("March", hotel.monthIncome(202403), 10000);
    }

    private static void promise41TheLastNightOfFebruaryInAnotherYear() {
        HotelNights hotel = new HotelNights();
        hotel.passes(31);
        Hotels.paid(hotel, 0, 20250227, 4);
        Check.same("27 and 28", hotel.monthIncome(202502), 20000);
        Check.same("1 and 2", hotel.monthIncome(202503), 20000);
    }

    private static void promise41TheLastNightOfTheYear() {
        HotelNights hotel = new HotelNights();
        Hotels.paid(hotel, 0, 20241230, 5);
        Check.same("30 and 31", hotel.monthIncome(202412), 20000);
        Check.same("1 to 3", hotel.monthIncome(202501), 30000);
    }

    private static void promise42ZeroWithoutStays() {
        Check.same("no stay", new HotelNights().meanPrice(), 0.0);
        Check.same("none that is alive", Hotels.withOneCancelled().meanPrice(), 0.0);
        Check.same("one that is over", Hotels.withOneOver().meanPrice(), 0.0);
    }

    private static void promise42OfOneNight() {
        HotelNights hotel = new HotelNights();
        Hotels.ask(hotel, 0, 20240304, 1);
        Check.same("10000 for one night", hotel.meanPrice(), 10000.0);
    }

    private static void promise42OfHeldAndPaidStays() {
        HotelNights hotel = new HotelNights();
        Hotels.ask(hotel, 0, 20240304, 2);
        Hotels.paid(hotel, 1, 20240304, 1);
        Check.same("45000 for three nights", hotel.meanPrice(), 45000.0 / 3.0);
    }

    private static void promise42AMeanThatIsNotWhole() {
        HotelNights hotel = new HotelNights();
        Hotels.ask(hotel, 0, 20240304, 6);
        Hotels.ask(hotel, 0, 20240304, 1);
        Check.same("71000 for seven nights", hotel.meanPrice(), 71000.0 / 7.0);
    }

    private static void promise42StaysForNothing() {
        HotelNights hotel = new HotelNights();
        hotel.addSeason(101, 1231, -50, 1);
        hotel.addSeason(101, 1231, -50, 1);
        Hotels.ask(hotel, 0, 20240304, 2);
        Check.same("mean", hotel.meanPrice(), 0.0);
    }

    private static void promise43KindIs0To1() {
        Edges.indexes(Hotels::busy, 2, (hotel, kind) -> hotel.share(kind, 20240301));
        Edges.indexes(Hotels::withSixRooms, 3, (hotel, kind) -> hotel.share(kind, 20240301));
    }

    private static void promise43ThrowsIfDateIsNoDate() {
        Edges.dates(Hotels::busy, (hotel, date) -> hotel.share(0, date));
    }

    private static void promise43AnIndexComesAheadOfAnArgument() {
        Edges.noIndex(Hotels::busy, "no date", hotel -> hotel.share(2, 20240230));
    }

    private static void promise43FromNoneToMoreThanAll() {
        HotelNights hotel = new HotelNights();
        hotel.setExtra(0, 3);
        for (int taken = 0; taken <= 6; taken++) {
            Check.same("taken " + taken, hotel.share(0, 20240304), (float) taken / 3.0f);
            Hotels.ask(hotel, 0, 20240304, 1);
        }
    }

    private static void promise43OfOneRoom() {
        HotelNights hotel = new HotelNights();
        hotel.setExtra(1, 3);
        for (int taken = 0; taken <= 4; taken++) {
            Check.same("taken " + taken, hotel.share(1, 20240304), (float) taken);
            Hotels.ask(hotel, 1, 20240304, 1);
        }
    }

    private static void promise43TheFirstAndTheLastDate() {
        Check.same("first", Hotels.busy().share(0, 20000101), 0.0f);
        Check.same("last", Hotels.busy().share(0, 20991231), 0.0f);
    }

    private static void promise44WithoutStays() {
        Check.same("checksum", new HotelNights().checksum(), 31 * 17 + 20240226);
    }

    private static void promise44WithOneStay() {
        HotelNights hotel = Hotels.withOneOver();
        int sum = 31 * 17 + HotelNights.OVER;
        sum = 31 * sum + 20000;
        sum = 31 * sum + 2;
        Check.same("checksum", hotel.checksum(), 31 * sum + 20240228);
    }

    private static void promise44ItWraps() {
        HotelNights hotel = Hotels.withStays(3);
        long sum = 17;
        for (int stay = 0; stay < 3; stay++) {
            sum = 31 * sum + HotelNights.HELD;
            sum = 31 * sum + 10000 + 1000 * stay;
            sum = 31 * sum + 1;
        }
        sum = 31 * sum + 20240226;
        Check.same("it is beyond an int", sum > Integer.MAX_VALUE, true);
        Check.same("checksum", hotel.checksum(), (int) sum);
    }

    private static void promise44ItWrapsWithSixtyStays() {
        HotelNights hotel = Hotels.withStays(60);
        int sum = 17;
        for (int stay = 0; stay < 60; stay++) {
            sum = 31 * (31 * 31 * sum + 10000 + 1000 * (stay % 3)) + 1;
        }
        Check.same("checksum", hotel.checksum(), 31 * sum + 20240226);
    }

    private static void promise45AlwaysZero() {
        Check.same("a new object", new HotelNights().errors(), 0);
        Check.same("busy", Hotels.busy().errors(), 0);
        Check.same("sixty stays", Hotels.withStays(60).errors(), 0);
        Check.same("one sent away", Hotels.withOneSentAway().errors(), 0);
        Check.same("one over", Hotels.withOneOver().errors(), 0);
        Check.same("one cancelled", Hotels.withOneCancelled().errors(), 0);
    }

    private static void promise45MoreStaysThanRooms() {
        HotelNights hotel = Hotels.withSixRooms();
        for (int kind = 0; kind < 3; kind++) {
            hotel.setExtra(kind, 3);
        }
        for (int i = 0; i < 9; i++) {
            Hotels.ask(hotel, 2, 20240301, 1 + i % 3);
            Hotels.ask(hotel, 0, 20240301 + i, 3);
            Hotels.ask(hotel, 1, 20240301 + i, 4);
            Check.same("stays " + i, hotel.errors(), 0);
        }
    }
}
