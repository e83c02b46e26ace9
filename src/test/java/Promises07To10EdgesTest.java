/** Promises 7 to 10: each range, each exception, and their order. */
final class Promises07To10EdgesTest {
    private static final int NONE = HotelNights.NONE;

    private Promises07To10EdgesTest() {
    }

    /** A busy hotel on 20240227, so that there is a yesterday. */
    private static HotelNights busyTomorrow() {
        HotelNights hotel = Hotels.busy();
        hotel.passes(1);
        return hotel;
    }

    private static void promise07KindIs0To1() {
        Edges.indexes(Hotels::busy, 2, (hotel, kind) -> hotel.ask(kind, 20240401, 1, 1, 0, 20240401));
        Edges.indexes(Hotels::withSixRooms, 3, (hotel, kind) -> hotel.ask(kind, 20240401, 1, 1, 0, 20240401));
    }

    private static void promise07NightsAre1To14() {
        Edges.range(Hotels::busy, 1, 14, (hotel, nights) -> hotel.ask(0, 20240401, nights, 1, 0, 20240401));
    }

    private static void promise07AdultsAre1To4() {
        Edges.range(Hotels::busy, 1, 4, (hotel, adults) -> hotel.ask(0, 20240401, 1, adults, 0, 20240401));
    }

    private static void promise07ChildrenAre0To4() {
        Edges.range(Hotels::busy, 0, 4, (hotel, children) -> hotel.ask(0, 20240401, 1, 1, children, 20240401));
    }

    private static void promise07ThrowsIfFirstIsNoDate() {
        Edges.dates(Hotels::busy, (hotel, date) -> hotel.ask(0, date, 1, 1, 0, 20240226));
    }

    private static void promise07ThrowsIfTillIsNoDate() {
        Edges.dates(Hotels::busy, (hotel, date) -> hotel.ask(0, 20240401, 1, 1, 0, date));
    }

    private static void promise07FirstIsTodayOrLater() {
        Check.same("today", busyTomorrow().ask(0, 20240227, 1, 1, 0, 20240227), 4);
        Edges.noArgument(Promises07To10EdgesTest::busyTomorrow, "yesterday",
                hotel -> hotel.ask(0, 20240226, 1, 1, 0, 20240226));
        Edges.noArgument(Promises07To10EdgesTest::busyTomorrow, "yesterday, till today",
                hotel -> hotel.ask(0, 20240226, 1, 1, 0, 20240227));
        Edges.noArgument(Hotels::busy, "a year ago", hotel -> hotel.ask(0, 20230226, 1, 1, 0, 20230226));
    }

    private static void promise07TheLastNightIsAtMost365DaysBehindToday() {
        Check.same("365 days", Hotels.busy().ask(0, 20250225, 1, 1, 0, 20240226), 4);
        Edges.noArgument(Hotels::busy, "366 days", hotel -> hotel.ask(0, 20250226, 1, 1, 0, 20240226));
        Edges.noArgument(Hotels::busy, "2 nights", hotel -> hotel.ask(0, 20250225, 2, 1, 0, 20240226));
        Edges.noArgument(Hotels::busy, "the last date", hotel -> hotel.ask(0, 20991231, 1, 1, 0, 20240226));
        Edges.noArgument(Hotels::busy, "beyond it", hotel -> hotel.ask(0, 20991231, 14, 1, 0, 20240226));
    }

    private static void promise07TillIsTodayOrLater() {
        Check.same("today", busyTomorrow().ask(0, 20240401, 1, 1, 0, 20240227), 4);
        Edges.noArgument(Promises07To10EdgesTest::busyTomorrow, "yesterday",
                hotel -> hotel.ask(0, 20240401, 1, 1, 0, 20240226));
    }

    private static void promise07TillIsFirstOrEarlier() {
        Check.same("first", Hotels.busy().ask(0, 20240401, 2, 1, 0, 20240401), 4);
        Edges.noArgument(Hotels::busy, "a day behind", hotel -> hotel.ask(0, 20240401, 2, 1, 0, 20240402));
        Check.same("today, and first is today", Hotels.busy().ask(0, 20240226, 1, 1, 0, 20240226), 4);
        Edges.noArgument(Hotels::busy, "tomorrow, and first is today",
                hotel -> hotel.ask(0, 20240226, 1, 1, 0, 20240227));
    }

    private static void promise07ThrowsIfThereAre60Stays() {
        Edges.noState(() -> Hotels.withStays(60), "ask", hotel -> hotel.ask(0, 20240301, 1, 1, 0, 20240226));
        Check.same("59 stays", Hotels.withStays(59).ask(0, 20240301, 1, 1, 0, 20240226), 59);
    }

    private static void promise07ThrowsAlsoIfItWouldBeRefused() {
        Edges.noState(() -> Hotels.withStays(60), "a full night", hotel -> hotel.ask(0, 20240401, 1, 1, 0, 20240226));
    }

    private static void promise07AnIndexComesAheadOfAnArgument() {
        Edges.noIndex(Hotels::busy, "first", hotel -> hotel.ask(2, 0, 1, 1, 0, 20240226));
        Edges.noIndex(Hotels::busy, "all of them", hotel -> hotel.ask(-1, 0, 0, 0, -1, 0));
    }

    private static void promise07AnIndexComesAheadOfTheState() {
        Edges.noIndex(() -> Hotels.withStays(60), "kind 2", hotel -> hotel.ask(2, 20240301, 1, 1, 0, 20240226));
    }

    private static void promise07AnArgumentComesAheadOfTheState() {
        Edges.noArgument(() -> Hotels.withStays(60), "first", hotel -> hotel.ask(0, 0, 1, 1, 0, 20240226));
        Edges.noArgument(() -> Hotels.withStays(60), "nights", hotel -> hotel.ask(0, 20240301, 15, 1, 0, 20240226));
        Edges.noArgument(() -> Hotels.withStays(60), "adults", hotel -> hotel.ask(0, 20240301, 1, 5, 0, 20240226));
        Edges.noArgument(() -> Hotels.withStays(60), "children", hotel -> hotel.ask(0, 20240301, 1, 1, 5, 20240226));
        Edges.noArgument(() -> Hotels.withStays(60), "too late", hotel -> hotel.ask(0, 20250226, 1, 1, 0, 20240226));
        Edges.noArgument(() -> Hotels.withStays(60), "till", hotel -> hotel.ask(0, 20240301, 1, 1, 0, 20240302));
    }

    private static void promise07ReturnsNoneIfItIsRefused() {
        HotelNights hotel = new HotelNights();
        hotel.closeNight(0, 20240301, true);
        Check.same("refused", Hotels.ask(hotel, 0, 20240301, 1), NONE);
        Check.same("no stay", Look.stays(hotel), 0);
        Check.same("books", hotel.book(HotelNights.GUESTS), 0);
    }

    private static void promise08KindIs0To1() {
        Edges.indexes(Hotels::busy, 2, (hotel, kind) -> hotel.group(kind, 1, 20240401, 1, 20240401));
        Edges.indexes(Hotels::withSixRooms, 3, (hotel, kind) -> hotel.group(kind, 1, 20240401, 1, 20240401));
    }

    private static void promise08StaysAre1To6() {
        Edges.range(Hotels::withSixRooms, 1, 6, (hotel, stays) -> hotel.group(2, stays, 20240401, 1, 20240401));
    }

    private static void promise08NightsAre1To14() {
        Edges.range(Hotels::busy, 1, 14, (hotel, nights) -> hotel.group(0, 2, 20240401, nights, 20240401));
    }

    private static void promise08ThrowsIfFirstIsNoDate() {
        Edges.dates(Hotels::busy, (hotel, date) -> hotel.group(0, 1, date, 1, 20240226));
    }

    private static void promise08ThrowsIfTillIsNoDate() {
        Edges.dates(Hotels::busy, (hotel, date) -> hotel.group(0, 1, 20240401, 1, date));
    }

    private static void promise08FirstIsTodayOrLater() {
        Check.same("today", busyTomorrow().group(0, 1, 20240227, 1, 20240227), 1);
        Edges.noArgument(Promises07To10EdgesTest::busyTomorrow, "yesterday",
                hotel -> hotel.group(0, 1, 20240226, 1, 20240226));
    }

    private static void promise08TheLastNightIsAtMost365DaysBehindToday() {
        Check.same("365 days", Hotels.busy().group(0, 1, 20250212, 14, 20240226), 1);
        Edges.noArgument(Hotels::busy, "366 days", hotel -> hotel.group(0, 1, 20250213, 14, 20240226));
        Edges.noArgument(Hotels::busy, "366 days", hotel -> hotel.group(0, 1, 20250226, 1, 20240226));
    }

    private static void promise08TillIsTodayToFirst() {
        Check.same("today", busyTomorrow().group(0, 1, 20240401, 1, 20240227), 1);
        Check.same("first", Hotels.busy().group(0, 1, 20240401, 1, 20240401), 1);
        Edges.noArgument(Promises07To10EdgesTest::busyTomorrow, "yesterday",
                hotel -> hotel.group(0, 1, 20240401, 1, 20240226));
        Edges.noArgument(Hotels::busy, "a day behind", hotel -> hotel.group(0, 1, 20240401, 1, 20240402));
    }

    private static void promise08ThrowsIfThereAre10Groups() {
        Edges.noState(Hotels::withTenGroups, "group", hotel -> hotel.group(0, 1, 20240301, 1, 20240301));
    }

    private static void promise08ThrowsIfThereWouldBeMoreThan60Stays() {
        Check.same("58 and 2", Hotels.withStays(58).group(0, 2, 20240301, 1, 20240301), 0);
        Edges.noState(() -> Hotels.withStays(58), "58 and 3", hotel -> hotel.group(0, 3, 20240301, 1, 20240301));
        Edges.noState(() -> Hotels.withStays(55), "55 and 6", hotel -> hotel.group(0, 6, 20240301, 1, 20240301));
        Edges.noState(() -> Hotels.withStays(60), "60 and 1", hotel -> hotel.group(0, 1, 20240301, 1, 20240301));
    }

    private static void promise08ThrowsAlsoIfItWouldBeRefused() {
        Edges.noState(() -> Hotels.withStays(58), "a full night", hotel -> hotel.group(0, 3, 20240401, 1, 20240301));
        Edges.noState(Hotels::withTenGroups, "a group of 4", hotel -> hotel.group(0, 4, 20240301, 1, 20240301));
    }

    private static void promise08AnIndexComesAheadOfAnArgument() {
        Edges.noIndex(Hotels::busy, "stays 0", hotel -> hotel.group(2, 0, 20240401, 1, 20240401));
        Edges.noIndex(Hotels::busy, "all of them", hotel -> hotel.group(-1, 7, 0, 0, 0));
    }

    private static void promise08AnIndexComesAheadOfTheState() {
        Edges.noIndex(Hotels::withTenGroups, "kind 2", hotel -> hotel.group(2, 1, 20240301, 1, 20240301));
    }

    private static void promise08AnArgumentComesAheadOfTheState() {
        Edges.noArgument(Hotels::withTenGroups, "stays", hotel -> hotel.group(0, 7, 20240301, 1, 20240301));
        Edges.noArgument(Hotels::withTenGroups, "nights", hotel -> hotel.group(0, 1, 20240301, 15, 20240301));
        Edges.noArgument(Hotels::withTenGroups, "first", hotel -> hotel.group(0, 1, 0, 1, 20240301));
        Edges.noArgument(() -> Hotels.withStays(60), "till", hotel -> hotel.group(0, 1, 20240301, 1, 20240302));
    }

    private static void promise08ReturnsNoneIfItIsRefused() {
        HotelNights hotel = new HotelNights();
        Check.same("4 stays in 3 rooms", hotel.group(0, 4, 20240301, 1, 20240301), NONE);
        Check.same("no stay", Look.stays(hotel), 0);
        Check.noIndex(hotel, "no group", () -> hotel.letGo(0));
    }

    private static void promise09GroupIsANumberOfAGroup() {
        Edges.indexes(Hotels::busy, 1, (hotel, group) -> hotel.letGo(group));
        Edges.indexes(Hotels::withTenGroups, 10, (hotel, group) -> hotel.letGo(group));
        Edges.noIndex(HotelNights::new, "no group yet", hotel -> hotel.letGo(0));
    }

    private static void promise09ReturnsHowManyStaysAreCancelled() {
        for (int stays = 1; stays <= 6; stays++) {
            HotelNights hotel = Hotels.withSixRooms();
            hotel.group(2, stays, 20240301, 1, 20240301);
            Check.same("all of " + stays, hotel.letGo(0), stays);
            Check.same("none the second time", hotel.letGo(0), 0);
        }
    }

    private static void promise09AGroupWhoseFirstNightIsToday() {
        HotelNights hotel = new HotelNights();
        hotel.group(0, 2, 20240226, 1, 20240226);
        Check.same("cancelled", hotel.letGo(0), 2);
    }

    private static void promise09StaysThatDaysCancelled() {
        HotelNights hotel = new HotelNights();
        hotel.group(0, 2, 20240301, 1, 20240226);
        hotel.passes(1);
        Check.same("cancelled before", hotel.letGo(0), 0);
    }

    private static void promise09AGroupThatWasUndoneIsGone() {
        HotelNights hotel = new HotelNights();
        hotel.group(0, 2, 20240301, 1, 20240301);
        hotel.undo();
        Check.noIndex(hotel, "group 0", () -> hotel.letGo(0));
    }

    private static void promise10KindIs0To1() {
        Edges.indexes(Hotels::busy, 2, (hotel, kind) -> hotel.waitFor(kind, 20240401, 1, 1, 0));
        Edges.indexes(Hotels::withSixRooms, 3, (hotel, kind) -> hotel.waitFor(kind, 20240401, 1, 1, 0));
    }

    private static void promise10NightsAre1To14() {
        Edges.range(Hotels::busy, 1, 14, (hotel, nights) -> hotel.waitFor(0, 20240401, nights, 1, 0));
    }

    private static void promise10AdultsAre1To4() {
        Edges.range(Hotels::busy, 1, 4, (hotel, adults) -> hotel.waitFor(0, 20240401, 1, adults, 0));
    }

    private static void promise10ChildrenAre0To4() {
        Edges.range(Hotels::busy, 0, 4, (hotel, children) -> hotel.waitFor(0, 20240401, 1, 1, children));
    }

    private static void promise10ThrowsIfFirstIsNoDate() {
        Edges.dates(Hotels::busy, (hotel, date) -> hotel.waitFor(0, date, 1, 1, 0));
    }

    private static void promise10FirstIsTodayOrLater() {
        Check.same("today", busyTomorrow().waitFor(0, 20240227, 1, 1, 0), 2);
        Edges.noArgument(Promises07To10EdgesTest::busyTomorrow, "yesterday",
                hotel -> hotel.waitFor(0, 20240226, 1, 1, 0));
    }

    private static void promise10TheLastNightIsAtMost365DaysBehindToday() {
        Check.same("365 days", Hotels.busy().waitFor(0, 20250225, 1, 1, 0), 2);
        Check.same("14 nights", Hotels.busy().waitFor(0, 20250212, 14, 1, 0), 2);
        Edges.noArgument(Hotels::busy, "366 days", hotel -> hotel.waitFor(0, 20250226, 1, 1, 0));
        Edges.noArgument(Hotels::busy, "14 nights", hotel -> hotel.waitFor(0, 20250213, 14, 1, 0));
    }

    private static void promise10ThrowsIf20GuestsWait() {
        Check.same("19 guests", Hotels.withGuests(19).waitFor(1, 20240301, 1, 1, 0), 20);
        Edges.noState(() -> Hotels.withGuests(20), "waitFor", hotel -> hotel.waitFor(1, 20240301, 1, 1, 0));
    }

    private static void promise10AnIndexComesAheadOfAnArgument() {
        Edges.noIndex(Hotels::busy, "all of them", hotel -> hotel.waitFor(2, 0, 0, 0, -1));
    }

    private static void promise10AnIndexComesAheadOfTheState() {
        Edges.noIndex(() -> Hotels.withGuests(20), "kind 2", hotel -> hotel.waitFor(2, 20240301, 1, 1, 0));
    }

    private static void promise10AnArgumentComesAheadOfTheState() {
        Edges.noArgument(() -> Hotels.withGuests(20), "first", hotel -> hotel.waitFor(0, 0, 1, 1, 0));
        Edges.noArgument(() -> Hotels.withGuests(20), "nights", hotel -> hotel.waitFor(0, 20240301, 15, 1, 0));
        Edges.noArgument(() -> Hotels.withGuests(20), "adults", hotel -> hotel.waitFor(0, 20240301, 1, 0, 0));
        Edges.noArgument(() -> Hotels.withGuests(20), "children", hotel -> hotel.waitFor(0, 20240301, 1, 1, 5));
    }

    private static void promise10ReturnsHowManyGuestsWaitThen() {
        HotelNights hotel = new HotelNights();
        for (int i = 1; i <= 20; i++) {
            Check.same("guest " + i, hotel.waitFor(0, 20240301, 1, 1, 0), i);
        }
        Check.same("waiting", hotel.waiting(), 20);
    }

    private static void promise10With60StaysAGuestCanStillWait() {
        Check.same("guests", Hotels.withStays(60).waitFor(0, 20240301, 1, 1, 0), 1);
    }
}
