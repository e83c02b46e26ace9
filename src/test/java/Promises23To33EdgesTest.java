/** Promises 23 to 33: each range, each exception, and their order. */
final class Promises23To33EdgesTest {
    private static final int NONE = HotelNights.NONE;

    private Promises23To33EdgesTest() {
    }

    private static void promise23Returns2Or3() {
        Check.same("at first", new HotelNights().kinds(), 2);
        HotelNights hotel = Hotels.withSixRooms();
        Check.same("with a third kind", hotel.kinds(), 3);
        hotel.undo();
        Check.same("undone", hotel.kinds(), 2);
    }

    private static void promise24KindIs0To1() {
        Edges.indexes(Hotels::busy, 2, (hotel, kind) -> hotel.count(kind, 20240301));
        Edges.indexes(Hotels::withSixRooms, 3, (hotel, kind) -> hotel.count(kind, 20240301));
    }

    private static void promise24ThrowsIfDateIsNoDate() {
        Edges.dates(Hotels::busy, (hotel, date) -> hotel.count(0, date));
    }

    private static void promise24AnIndexComesAheadOfAnArgument() {
        Edges.noIndex(Hotels::busy, "no date", hotel -> hotel.count(2, 20240230));
    }

    private static void promise24TheFirstAndTheLastDate() {
        Check.same("first", Hotels.busy().count(0, 20000101), 0);
        Check.same("last", Hotels.busy().count(0, 20991231), 0);
    }

    private static void promise24AroundAStay() {
        HotelNights hotel = new HotelNights();
        Hotels.ask(hotel, 0, 20240229, 3);
        int[] nights = {20240228, 20240229, 20240301, 20240302, 20240303};
        int[] due = {0, 1, 1, 1, 0};
        for (int i = 0; i < 5; i++) {
            Check.same("count on " + nights[i], hotel.count(0, nights[i]), due[i]);
        }
    }

    private static void promise24UpToNineStays() {
        HotelNights hotel = Hotels.withSixRooms();
        hotel.setExtra(2, 3);
        for (int i = 0; i < 9; i++) {
            Check.same("count", hotel.count(2, 20240301), i);
            Hotels.ask(hotel, 2, 20240301, 1);
        }
        Check.same("count", hotel.count(2, 20240301), 9);
    }

    private static void promise24NightsAheadOfToday() {
        HotelNights hotel = new HotelNights();
        Hotels.paid(hotel, 0, 20240226, 5);
        hotel.passes(2);
        Check.same("a stay that is alive has its night still", hotel.count(0, 20240226), 1);
    }

    private static void promise25KindIs0To1() {
        Edges.indexes(Hotels::busy, 2, (hotel, kind) -> hotel.greatest(kind, 20240301, 20240310));
        Edges.indexes(Hotels::withSixRooms, 3, (hotel, kind) -> hotel.greatest(kind, 20240301, 20240310));
    }

    private static void promise25ThrowsIfFromIsNoDate() {
        Edges.dates(Hotels::busy, (hotel, date) -> hotel.greatest(0, date, 20240301));
    }

    private static void promise25ThrowsIfToIsNoDate() {
        Edges.dates(Hotels::busy, (hotel, date) -> hotel.greatest(0, 20240301, date));
    }

    private static void promise25ThrowsIfToIsAheadOfFrom() {
        Check.same("the same night", Hotels.busy().greatest(0, 20240305, 20240305), 3);
        Edges.noArgument(Hotels::busy, "a day ahead", hotel -> hotel.greatest(0, 20240305, 20240304));
        Edges.noArgument(Hotels::busy, "a month ahead", hotel -> hotel.greatest(0, 20240301, 20240229));
    }

    private static void promise25ToIsAtMost400DaysBehindFrom() {
        Check.same("400 days", Hotels.busy().greatest(0, 20240226, 20250401), 3);
        Edges.noArgument(Hotels::busy, "401 days", hotel -> hotel.greatest(0, 20240226, 20250402));
        Edges.noArgument(Hotels::busy, "all dates", hotel -> hotel.greatest(0, 20000101, 20991231));
    }

    private static void promise25AnIndexComesAheadOfAnArgument() {
        Edges.noIndex(Hotels::busy, "no dates", hotel -> hotel.greatest(2, 0, 0));
        Edges.noIndex(Hotels::busy, "to ahead of from", hotel -> hotel.greatest(-1, 20240305, 20240304));
    }

    private static void promise25TheFirstAndTheLastDate() {
        Check.same("first", new HotelNights().greatest(0, 20000101, 20000101), 0);
        Check.same("last", new HotelNights().greatest(0, 20991231, 20991231), 0);
        Check.same("400 days from the first", new HotelNights().greatest(0, 20000101, 20010204), 0);
    }

    private static HotelNights withAGreatestOn20240305() {
        HotelNights hotel = new HotelNights();
        Hotels.ask(hotel, 0, 20240303, 3);
        Hotels.ask(hotel, 0, 20240305, 3);
        return hotel;
    }

    private static void promise25TheGreatestIsOnTheFirstNight() {
        Check.same("from it on", withAGreatestOn20240305().greatest(0, 20240305, 20240320), 2);
        Check.same("behind it", withAGreatestOn20240305().greatest(0, 20240306, 20240320), 1);
    }

    private static void promise25TheGreatestIsOnTheLastNight() {
        Check.same("up to it", withAGreatestOn20240305().greatest(0, 20240226, 20240305), 2);
        Check.same("ahead of it", withAGreatestOn20240305().greatest(0, 20240226, 20240304), 1);
    }

    private static void promise25NoStayIsThere() {
        Check.same("ahead", withAGreatestOn20240305().greatest(0, 20240226, 20240302), 0);
        Check.same("behind", withAGreatestOn20240305().greatest(0, 20240308, 20240320), 0);
    }

    private static void promise25OnlyTheMiddleOfAStay() {
        HotelNights hotel = new HotelNights();
        Hotels.ask(hotel, 0, 20240301, 14);
        Check.same("it begins ahead and ends behind", hotel.greatest(0, 20240305, 20240306), 1);
    }

    private static void promise26KindIs0To1() {
        Edges.indexes(Hotels::busy, 2, (hotel, kind) -> hotel.needed(kind));
        Edges.indexes(Hotels::withSixRooms, 3, (hotel, kind) -> hotel.needed(kind));
    }

    private static void promise26NoStayNeedsNoRoom() {
        Check.same("no stay", new HotelNights().needed(0), 0);
        Check.same("a cancelled one", Hotels.withOneCancelled().needed(0), 0);
        Check.same("one that is over", Hotels.withOneOver().needed(0), 0);
    }

    private static void promise26OneBehindTheOther() {
        HotelNights hotel = new HotelNights();
        Hotels.ask(hotel, 0, 20240301, 2);
        Hotels.ask(hotel, 0, 20240303, 2);
        Check.same("the last night is a day ahead", hotel.needed(0), 1);
        Hotels.ask(hotel, 0, 20240304, 2);
        Check.same("the last night is the first one", hotel.needed(0), 2);
    }

    private static void promise26MoreThanThereAreRooms() {
        HotelNights hotel = Hotels.withSixRooms();
        hotel.setExtra(2, 3);
        for (int i = 0; i < 9; i++) {
            Hotels.ask(hotel, 2, 20240301, 1);
        }
        Check.same("rooms", hotel.needed(2), 9);
    }

    private static void promise27ZeroIfThereWasNone() {
        Check.same("at first", new HotelNights().refusedNight(), 0);
        HotelNights hotel = Hotels.busy();
        Check.same("none was refused", hotel.refusedNight(), 0);
    }

    private static void promise27OfTheLatestCallThatWasRefused() {
        HotelNights hotel = new HotelNights();
        hotel.closeNight(0, 20240303, true);
        Hotels.ask(hotel, 0, 20240303, 1);
        Check.same("of ask", hotel.refusedNight(), 20240303);
        hotel.group(1, 2, 20240401, 1, 20240301);
        Check.same("of group", hotel.refusedNight(), 20240401);
        Hotels.ask(hotel, 0, 20240301, 2);
        Check.same("one that was not refused", hotel.refusedNight(), 20240401);
        hotel.longer(0, 1);
        Check.same("of longer", hotel.refusedNight(), 20240303);
    }

    private static void promise27ACallThatThrowsLeavesIt() {
        HotelNights hotel = new HotelNights();
        hotel.closeNight(0, 20240303, true);
        Hotels.ask(hotel, 0, 20240303, 1);
        Check.noArgument(hotel, "ask", () -> hotel.ask(0, 20240303, 15, 1, 0, 20240226));
        Check.noIndex(hotel, "longer", () -> hotel.longer(0, 1));
        Check.same("refused night", hotel.refusedNight(), 20240303);
    }

    private static void promise27OpeningTheNightLeavesIt() {
        HotelNights hotel = new HotelNights();
        hotel.closeNight(0, 20240303, true);
        Hotels.ask(hotel, 0, 20240303, 1);
        hotel.closeNight(0, 20240303, false);
        hotel.passes(31);
        Check.same("refused night", hotel.refusedNight(), 20240303);
    }

    private static void promise28StayIsANumberOfAStay() {
        Edges.indexes(Hotels::busy, 4, (hotel, stay) -> hotel.stayAt(stay, 0));
        Edges.indexes(() -> Hotels.withStays(60), 60, (hotel, stay) -> hotel.stayAt(stay, 0));
        Edges.noIndex(HotelNights::new, "no stay yet", hotel -> hotel.stayAt(0, 0));
    }

    private static void promise28WhatIs0To8() {
        Edges.range(Hotels::busy, 0, 8, (hotel, what) -> hotel.stayAt(0, what));
    }

    private static void promise28AnIndexComesAheadOfAnArgument() {
        Edges.noIndex(Hotels::busy, "what 9", hotel -> hotel.stayAt(4, 9));
        Edges.noIndex(Hotels::busy, "what -1", hotel -> hotel.stayAt(-1, -1));
    }

    private static void promise28OfAHeldStay() {
        stayIs(Hotels.busy(), 1, HotelNights.HELD, 1, 20240310, 3, 75000, 0, 0, NONE, 20240301);
    }

    private static void promise28OfAPaidStay() {
        stayIs(Hotels.busy(), 0, HotelNights.PAID, 0, 20240305, 2, 20000, 4000, 0, NONE, 20240301);
    }

    private static void promise28OfAStayOfAGroup() {
        stayIs(Hotels.busy(), 3, HotelNights.HELD, 0, 20240305, 2, 24000, 0, 0, 0, 20240301);
    }

    private static void promise28OfACancelledStay() {
        stayIs(Hotels.withOneCancelled(), 0, HotelNights.CANCELLED, 0, 20240301, 2, 20000, 0, 0, NONE, 20240226);
    }

    private static void promise28OfAStayThatIsSentAway() {
        stayIs(Hotels.withOneSentAway(), 0, HotelNights.SENT, 1, 20240228, 2, 50000, 10000, 0, NONE, 20240226);
    }

    private static void promise28OfAStayThatIsOver() {
        stayIs(Hotels.withOneOver(), 0, HotelNights.OVER, 0, 20240226, 2, 20000, 4000, 0, NONE, 20240226);
    }

    private static void stayIs(HotelNights hotel, int stay, int... due) {
        for (int what = 0; what <= 8; what++) {
            Check.same("what " + what, hotel.stayAt(stay, what), due[what]);
        }
    }

    private static void promise29StayIsANumberOfAStay() {
        Edges.indexes(Hotels::busy, 4, (hotel, stay) -> hotel.roomOf(stay));
        Edges.noIndex(HotelNights::new, "no stay yet", hotel -> hotel.roomOf(0));
    }

    private static void promise29ThrowsIfItIsNotAlive() {
        Edges.noState(Hotels::withOneCancelled, "cancelled", hotel -> hotel.roomOf(0));
        Edges.noState(Hotels::withOneSentAway, "sent away", hotel -> hotel.roomOf(0));
        Edges.noState(Hotels::withOneOver, "over", hotel -> hotel.roomOf(0));
    }

    private static void promise29NoneIfThereIsNone() {
        HotelNights hotel = new HotelNights();
        hotel.setExtra(0, 1);
        hotel.group(0, 4, 20240301, 1, 20240301);
        Check.same("the last room", hotel.roomOf(2), 2);
        Check.same("none", hotel.roomOf(3), NONE);
    }

    private static void promise29SixtyStays() {
        HotelNights hotel = Hotels.withStays(60);
        for (int stay = 0; stay < 60; stay++) {
            Check.same("room of " + stay, hotel.roomOf(stay), stay % 3);
        }
    }

    private static void promise30KindIs0To1() {
        Edges.indexes(Hotels::busy, 2, (hotel, kind) -> hotel.priceOf(kind, 20240301));
        Edges.indexes(Hotels::withSixRooms, 3, (hotel, kind) -> hotel.priceOf(kind, 20240301));
    }

    private static void promise30ThrowsIfDateIsNoDate() {
        Edges.dates(Hotels::busy, (hotel, date) -> hotel.priceOf(0, date));
    }

    private static void promise30AnIndexComesAheadOfAnArgument() {
        Edges.noIndex(Hotels::busy, "no date", hotel -> hotel.priceOf(2, 20240230));
    }

    private static void promise30TheFirstAndTheLastDate() {
        HotelNights hotel = new HotelNights();
        hotel.addSeason(1231, 101, 10, 1);
        hotel.setWeekend(20, 0);
        Check.same("a Saturday", hotel.priceOf(0, 20000101), 13000);
        Check.same("a Thursday", hotel.priceOf(0, 20991231), 11000);
    }

    private static void promise30AsItIsNow() {
        HotelNights hotel = new HotelNights();
        Check.same("nobody", hotel.priceOf(1, 20240304), 25000);
        Hotels.ask(hotel, 1, 20240304, 1);
        Check.same("one stay", hotel.priceOf(1, 20240304), 35000);
        hotel.cancel(0);
        Check.same("cancelled", hotel.priceOf(1, 20240304), 25000);
    }

    private static void promise31StayIsANumberOfAStay() {
        Edges.indexes(Hotels::busy, 4, (hotel, stay) -> hotel.refund(stay));
        Edges.noIndex(HotelNights::new, "no stay yet", hotel -> hotel.refund(0));
    }

    private static void promise31ZeroIfItIsNotPaid() {
        Check.same("held", Hotels.busy().refund(1), 0);
        Check.same("cancelled", Hotels.withOneCancelled().refund(0), 0);
        Check.same("sent away", Hotels.withOneSentAway().refund(0), 0);
        Check.same("over", Hotels.withOneOver().refund(0), 0);
    }

    private static void promise31IsWhatCancelReturns() {
        int[] days = {1, 2, 3, 4, 13, 14, 15};
        for (int day : days) {
            HotelNights hotel = new HotelNights();
            Hotels.paid(hotel, 0, hotel.addDays(20240226, day), 1);
            int due = hotel.refund(0);
            Check.same(day + " days", hotel.cancel(0), due);
            Check.same(day + " days", due, day >= 14 ? 2000 : day >= 3 ? 1000 : 0);
        }
    }

    private static void promise32BookIs0To3() {
        Edges.indexes(Hotels::busy, 4, (hotel, book) -> hotel.book(book));
    }

    private static void promise32BalancesAboveAndBelow0() {
        HotelNights hotel = Hotels.withOneOver();
        Check.same("guests", hotel.book(HotelNights.GUESTS), -20000);
        Check.same("income", hotel.book(HotelNights.INCOME), 20000);
    }

    private static void promise33Returns0To20() {
        Check.same("none", new HotelNights().waiting(), 0);
        for (int guests = 1; guests <= 20; guests++) {
            Check.same("guests", Hotels.withGuests(guests).waiting(), guests);
        }
    }

    private static void promise33AGuestThatGotAStayWaitsNoLonger() {
        HotelNights hotel = Hotels.withGuests(4);
        hotel.closeNight(0, 20240401, false);
        Check.same("three got one", hotel.waiting(), 1);
        hotel.undo();
        Check.same("undone", hotel.waiting(), 4);
    }
}
