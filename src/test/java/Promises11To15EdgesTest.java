/** Promises 11 to 15: each range, each exception, and their order. */
final class Promises11To15EdgesTest {
    private static final int NONE = HotelNights.NONE;

    private Promises11To15EdgesTest() {
    }

    /** A held stay 0 of 10 nights from 20240301 on. */
    private static HotelNights withTenNights() {
        HotelNights hotel = new HotelNights();
        hotel.ask(0, 20240301, 10, 1, 0, 20240301);
        return hotel;
    }

    private static void promise11StayIsANumberOfAStay() {
        Edges.noIndex(HotelNights::new, "no stay yet", hotel -> hotel.pay(0));
        int[] numbers = {-1, 4, 60, Integer.MIN_VALUE, Integer.MAX_VALUE};
        for (int number : numbers) {
            Edges.noIndex(Hotels::busy, "stay " + number, hotel -> hotel.pay(number));
        }
        Check.same("the last one", Hotels.busy().pay(3) > 0, true);
        Check.same("the sixtieth one", Hotels.withStays(60).pay(59) > 0, true);
    }

    private static void promise11ThrowsIfItIsNotHeld() {
        Edges.noState(Hotels::busy, "paid", hotel -> hotel.pay(0));
        Edges.noState(Hotels::withOneCancelled, "cancelled", hotel -> hotel.pay(0));
        Edges.noState(Hotels::withOneSentAway, "sent away", hotel -> hotel.pay(0));
        Edges.noState(Hotels::withOneOver, "over", hotel -> hotel.pay(0));
    }

    private static void promise11ReturnsTheDeposit() {
        HotelNights hotel = withTenNights();
        Check.same("20 percent", hotel.pay(0), 20000);
        Check.same("deposit", hotel.stayAt(0, 5), 20000);
    }

    private static void promise11OnTheDateTillWhichItIsHeld() {
        HotelNights hotel = new HotelNights();
        hotel.ask(0, 20240301, 1, 1, 0, 20240227);
        hotel.passes(1);
        Check.same("on that date", hotel.pay(0), 2000);
        HotelNights late = new HotelNights();
        late.ask(0, 20240301, 1, 1, 0, 20240227);
        late.passes(2);
        Check.noState(late, "a day behind", () -> late.pay(0));
    }

    private static void promise12StayIsANumberOfAStay() {
        Edges.indexes(Hotels::busy, 4, (hotel, stay) -> hotel.cancel(stay));
        Edges.noIndex(HotelNights::new, "no stay yet", hotel -> hotel.cancel(0));
    }

    private static void promise12ThrowsIfItIsNotAlive() {
        Edges.noState(Hotels::withOneCancelled, "cancelled", hotel -> hotel.cancel(0));
        Edges.noState(Hotels::withOneSentAway, "sent away", hotel -> hotel.cancel(0));
        Edges.noState(Hotels::withOneOver, "over", hotel -> hotel.cancel(0));
    }

    /** A paid stay of three nights from tomorrow on, and some days that passed. */
    private static HotelNights withAStayFromTomorrowOn(int days) {
        HotelNights hotel = new HotelNights();
        Hotels.paid(hotel, 0, 20240227, 3);
        for (int i = 0; i < days; i++) {
            hotel.passes(1);
        }
        return hotel;
    }

    private static void promise12TheFirstNightIsTomorrow() {
        Check.same("refund", withAStayFromTomorrowOn(0).cancel(0), 0);
    }

    private static void promise12ThrowsIfTheFirstNightIsToday() {
        Edges.noState(() -> withAStayFromTomorrowOn(1), "today, paid", hotel -> hotel.cancel(0));
        HotelNights held = new HotelNights();
        Hotels.ask(held, 0, 20240226, 1);
        Check.noState(held, "today, held", () -> held.cancel(0));
    }

    private static void promise12ThrowsIfTheFirstNightIsAheadOfToday() {
        Edges.noState(() -> withAStayFromTomorrowOn(2), "yesterday", hotel -> hotel.cancel(0));
    }

    private static void promise12ReturnsTheRefund() {
        HotelNights hotel = new HotelNights();
        Hotels.paid(hotel, 0, 20240311, 1);
        Hotels.paid(hotel, 0, 20240310, 1);
        Hotels.paid(hotel, 0, 20240229, 1);
        Hotels.paid(hotel, 0, 20240228, 1);
        int[] due = {2000, 1000, 1000, 0};
        for (int stay = 0; stay < 4; stay++) {
            Check.same("refund of " + stay, hotel.cancel(stay), due[stay]);
            Check.same("state of " + stay, hotel.stayAt(stay, 0), HotelNights.CANCELLED);
        }
    }

    private static void promise12ReturnsZeroIfItWasHeld() {
        HotelNights hotel = withTenNights();
        Check.same("refund", hotel.cancel(0), 0);
        Check.same("state", hotel.stayAt(0, 0), HotelNights.CANCELLED);
    }

    private static void promise13StayIsANumberOfAStay() {
        Edges.indexes(Hotels::busy, 4, (hotel, stay) -> hotel.longer(stay, 1));
        Edges.noIndex(HotelNights::new, "no stay yet", hotel -> hotel.longer(0, 1));
    }

    private static void promise13NightsAre1To13() {
        Edges.range(Promises11To15EdgesTest::withOneNight, 1, 13, (hotel, nights) -> hotel.longer(0, nights));
    }

    private static HotelNights withOneNight() {
        HotelNights hotel = new HotelNights();
        hotel.ask(0, 20240301, 1, 1, 0, 20240301);
        return hotel;
    }

    private static void promise13TheStayHas14NightsAtMost() {
        Edges.range(Promises11To15EdgesTest::withTenNights, 1, 4, (hotel, nights) -> hotel.longer(0, nights));
    }

    private static void promise13TheLastNightIsAtMost365DaysBehindToday() {
        Edges.range(() -> withAStayFrom(20250220), 1, 5, (hotel, nights) -> hotel.longer(0, nights));
        Edges.noArgument(() -> withAStayFrom(20250225), "one more", hotel -> hotel.longer(0, 1));
    }

    private static HotelNights withAStayFrom(int first) {
        HotelNights hotel = new HotelNights();
        hotel.ask(0, first, 1, 1, 0, 20240301);
        return hotel;
    }

    private static void promise13ThrowsIfItIsNotAlive() {
        Edges.noState(Hotels::withOneCancelled, "cancelled", hotel -> hotel.longer(0, 1));
        Edges.noState(Hotels::withOneSentAway, "sent away", hotel -> hotel.longer(0, 1));
        Edges.noState(Hotels::withOneOver, "over", hotel -> hotel.longer(0, 1));
    }

    private static void promise13AnIndexComesAheadOfAnArgument() {
        Edges.noIndex(Hotels::busy, "nights 0", hotel -> hotel.longer(4, 0));
        Edges.noIndex(Hotels::busy, "nights 14", hotel -> hotel.longer(-1, 14));
    }

    private static void promise13AnArgumentComesAheadOfTheState() {
        Edges.noArgument(Hotels::withOneCancelled, "nights 0", hotel -> hotel.longer(0, 0));
        Edges.noArgument(Hotels::withOneCancelled, "15 nights in all", hotel -> hotel.longer(0, 13));
        Edges.noArgument(Promises11To15EdgesTest::withALateOneCancelled, "366 days", hotel -> hotel.longer(0, 1));
    }

    private static HotelNights withALateOneCancelled() {
        HotelNights hotel = withAStayFrom(20250225);
        hotel.cancel(0);
        return hotel;
    }

    private static void promise13ReturnsThePriceOfTheNewNights() {
        HotelNights hotel = withOneNight();
        hotel.setWeekend(50, 0);
        Check.same("Saturday and Sunday", hotel.longer(0, 2), 25000);
        Check.same("price", hotel.stayAt(0, 4), 35000);
    }

    private static void promise13ReturnsNoneIfItIsRefused() {
        HotelNights hotel = withOneNight();
        hotel.closeNight(0, 20240302, true);
        Check.same("refused", hotel.longer(0, 1), NONE);
        Check.same("nights", hotel.stayAt(0, 3), 1);
        Check.same("price", hotel.stayAt(0, 4), 10000);
    }

    private static void promise13ItsTaxBecomesGreaterByTheNewNights() {
        HotelNights hotel = new HotelNights();
        hotel.setWeekend(0, 7);
        hotel.ask(0, 20240304, 1, 2, 1, 20240304);
        hotel.longer(0, 13);
        Check.same("tax", hotel.stayAt(0, 6), 14 * (2 * 7 + 4));
    }

    private static void promise13ASeasonsLeastNumberRefusesNothing() {
        HotelNights hotel = withOneNight();
        hotel.addSeason(101, 1231, 0, 7);
        Check.same("one more", hotel.longer(0, 1), 10000);
    }

    private static void promise14StayIsANumberOfAStay() {
        Edges.indexes(Hotels::busy, 4, (hotel, stay) -> hotel.shorter(stay, 1));
        Edges.noIndex(HotelNights::new, "no stay yet", hotel -> hotel.shorter(0, 1));
    }

    private static void promise14NightsAre1To13() {
        Edges.range(Promises11To15EdgesTest::withFourteenNights, 1, 13, (hotel, nights) -> hotel.shorter(0, nights));
    }

    private static HotelNights withFourteenNights() {
        HotelNights hotel = new HotelNights();
        hotel.ask(0, 20240301, 14, 1, 0, 20240301);
        return hotel;
    }

    private static void promise14AtLeastOneNightStays() {
        Edges.range(Promises11To15EdgesTest::withTenNights, 1, 9, (hotel, nights) -> hotel.shorter(0, nights));
        Edges.noArgument(Promises11To15EdgesTest::withOneNight, "its only night", hotel -> hotel.shorter(0, 1));
    }

    private static void promise14NoNightAheadOfTodayIsLeftOut() {
        Edges.range(Promises11To15EdgesTest::onTheFifthOfSevenNights, 1, 3,
                (hotel, nights) -> hotel.shorter(0, nights));
    }

    /** The nights of today and of two days more can be left out. */
    private static HotelNights onTheFifthOfSevenNights() {
        HotelNights hotel = new HotelNights();
        Hotels.paid(hotel, 0, 20240226, 7);
        hotel.passes(4);
        return hotel;
    }

    private static void promise14OnItsFirstNight() {
        HotelNights hotel = new HotelNights();
        Hotels.paid(hotel, 0, 20240226, 2);
        Check.noArgument(hotel, "both", () -> hotel.shorter(0, 2));
        Check.same("the second one", hotel.shorter(0, 1), 10000);
    }

    private static void promise14OnItsLastNight() {
        HotelNights hotel = new HotelNights();
        Hotels.paid(hotel, 0, 20240226, 2);
        hotel.passes(1);
        Check.same("tonight", hotel.shorter(0, 1), 10000);
        Check.same("it is over tomorrow, and still alive", hotel.stayAt(0, 0), HotelNights.PAID);
        Check.noArgument(hotel, "the night ahead", () -> hotel.shorter(0, 1));
        Check.same("nobody is there tonight", hotel.count(0, 20240227), 0);
    }

    private static void promise14ThrowsIfItIsNotAlive() {
        Edges.noState(Hotels::withOneCancelled, "cancelled", hotel -> hotel.shorter(0, 1));
        Edges.noState(Hotels::withOneSentAway, "sent away", hotel -> hotel.shorter(0, 1));
    }

    private static void promise14AnIndexComesAheadOfAnArgument() {
        Edges.noIndex(Hotels::busy, "nights 0", hotel -> hotel.shorter(4, 0));
        Edges.noIndex(Hotels::busy, "nights 14", hotel -> hotel.shorter(-1, 14));
    }

    private static void promise14AnArgumentComesAheadOfTheState() {
        Edges.noArgument(Hotels::withOneCancelled, "nights 0", hotel -> hotel.shorter(0, 0));
        Edges.noArgument(Hotels::withOneCancelled, "no night would stay", hotel -> hotel.shorter(0, 2));
        Edges.noArgument(Hotels::withOneOver, "nights ahead of today", hotel -> hotel.shorter(0, 1));
    }

    private static void promise14ReturnsThePriceOfTheNightsThatAreLeftOut() {
        HotelNights hotel = new HotelNights();
        hotel.setWeekend(50, 0);
        Hotels.ask(hotel, 0, 20240301, 3);
        hotel.setWeekend(0, 0);
        Check.same("Saturday and Sunday", hotel.shorter(0, 2), 25000);
        Check.same("Friday", hotel.stayAt(0, 4), 15000);
    }

    private static void promise14ItsTaxBecomesLessByTheNightsThatAreLeftOut() {
        HotelNights hotel = new HotelNights();
        hotel.setWeekend(0, 7);
        hotel.ask(0, 20240304, 14, 2, 1, 20240304);
        hotel.shorter(0, 13);
        Check.same("tax", hotel.stayAt(0, 6), 2 * 7 + 4);
    }

    private static void promise14LongerAndShorterInTurn() {
        HotelNights hotel = new HotelNights();
        Hotels.ask(hotel, 0, 20240304, 1);
        hotel.setWeekend(0, 0);
        for (int i = 1; i <= 13; i++) {
            Check.same("longer by " + i, hotel.longer(0, i), 10000 * i);
            Check.same("shorter by " + i, hotel.shorter(0, i), 10000 * i);
        }
        Check.same("price", hotel.stayAt(0, 4), 10000);
    }

    private static void promise15DaysAre1To31() {
        Edges.range(Hotels::busy, 1, 31, (hotel, days) -> hotel.passes(days));
    }

    private static void promise15ReturnsTodayThen() {
        Check.same("1 day", new HotelNights().passes(1), 20240227);
        Check.same("3 days", new HotelNights().passes(3), 20240229);
        Check.same("4 days", new HotelNights().passes(4), 20240301);
        Check.same("31 days", new HotelNights().passes(31), 20240328);
    }

    private static void promise15TodayIsNotBehind20991231() {
        HotelNights hotel = Hotels.atTheEndOfTheYears();
        Check.noArgument(hotel, "31 days", () -> hotel.passes(31));
        Check.same("30 days", hotel.passes(30), 20991231);
        Check.noArgument(hotel, "one more", () -> hotel.passes(1));
        hotel.undo();
        Check.same("29 days", hotel.passes(29), 20991230);
    }
}
