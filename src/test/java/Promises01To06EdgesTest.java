/** Promises 1 to 6: each range, each exception, and their order. */
final class Promises01To06EdgesTest {
    private Promises01To06EdgesTest() {
    }

    private static void promise01Kind0Has3RoomsFor10000() {
        HotelNights hotel = new HotelNights();
        Check.same("price", hotel.priceOf(0, 20240301), 10000);
        Check.same("four stays", hotel.group(0, 4, 20240301, 1, 20240301), HotelNights.NONE);
        Check.same("three stays", hotel.group(0, 3, 20240301, 1, 20240301), 0);
    }

    private static void promise01Kind1Has1RoomFor25000() {
        HotelNights hotel = new HotelNights();
        Check.same("price", hotel.priceOf(1, 20240301), 25000);
        Check.same("two stays", hotel.group(1, 2, 20240301, 1, 20240301), HotelNights.NONE);
        Check.same("one stay", hotel.group(1, 1, 20240301, 1, 20240301), 0);
    }

    private static void promise01NoNightWasRefused() {
        Check.same("refused night", new HotelNights().refusedNight(), 0);
    }

    private static void promise01NothingCanBeUndone() {
        HotelNights hotel = new HotelNights();
        String before = Look.at(hotel);
        Check.same("undo", hotel.undo(), HotelNights.NONE);
        Check.same("nothing is different", Look.at(hotel), before);
        Check.same("kinds", hotel.kinds(), 2);
    }

    private static void promise01EverythingElseIsEmpty() {
        HotelNights hotel = new HotelNights();
        Check.same("waiting", hotel.waiting(), 0);
        Check.same("stays", Look.stays(hotel), 0);
        Check.noIndex(hotel, "no group", () -> hotel.letGo(0));
        Check.noState(hotel, "no sale", () -> hotel.saleAt(0));
        Check.same("no season and no weekend", hotel.priceOf(0, 20240302), 10000);
    }

    private static void promise01TwoObjectsAreApart() {
        HotelNights hotel = Hotels.busy();
        HotelNights other = new HotelNights();
        hotel.passes(5);
        Check.same("another object", Look.at(other), Look.at(new HotelNights()));
    }

    private static void promise02RoomsAre1To6() {
        Edges.range(HotelNights::new, 1, 6, (hotel, rooms) -> hotel.addKind(rooms, 100));
        Edges.noArgument(Hotels::busy, "0 rooms", hotel -> hotel.addKind(0, 100));
    }

    private static void promise02PriceIs100To100000() {
        Edges.range(Hotels::busy, 100, 100000, (hotel, price) -> hotel.addKind(1, price));
    }

    private static void promise02ReturnsItsNumber() {
        Check.same("number", new HotelNights().addKind(6, 100000), 2);
    }

    private static void promise02ThrowsIfThereAre3Kinds() {
        Edges.noState(Hotels::withSixRooms, "a fourth kind", hotel -> hotel.addKind(1, 100));
    }

    private static void promise02AnArgumentComesAheadOfTheState() {
        Edges.noArgument(Hotels::withSixRooms, "7 rooms", hotel -> hotel.addKind(7, 100));
        Edges.noArgument(Hotels::withSixRooms, "price 99", hotel -> hotel.addKind(1, 99));
    }

    private static void promise02AThirdKindThatWasUndoneCanBeAddedAgain() {
        HotelNights hotel = Hotels.withSixRooms();
        hotel.undo();
        Check.same("number", hotel.addKind(2, 500), 2);
        Check.same("price", hotel.priceOf(2, 20240301), 500);
        Check.same("three stays", hotel.group(2, 3, 20240301, 1, 20240301), HotelNights.NONE);
    }

    private static void promise03KindIs0To1() {
        Edges.indexes(Hotels::busy, 2, (hotel, kind) -> hotel.closeNight(kind, 20240301, true));
        Edges.indexes(Hotels::busy, 2, (hotel, kind) -> hotel.closeNight(kind, 20240301, false));
    }

    private static void promise03KindIs0To2WithAThirdKind() {
        Edges.indexes(Hotels::withSixRooms, 3, (hotel, kind) -> hotel.closeNight(kind, 20240301, true));
    }

    private static void promise03ThrowsIfDateIsNoDate() {
        Edges.dates(Hotels::busy, (hotel, date) -> hotel.closeNight(0, date, true));
        Edges.dates(Hotels::busy, (hotel, date) -> hotel.closeNight(0, date, false));
    }

    private static void promise03TheFirstAndTheLastDate() {
        HotelNights hotel = new HotelNights();
        int[] dates = {20000101, 20991231, 20240225, 20240226};
        for (int date : dates) {
            Check.same("closing " + date, hotel.closeNight(1, date, true), 0);
            Check.same("opening " + date, hotel.closeNight(1, date, false), 0);
        }
    }

    private static void promise03AnIndexComesAheadOfAnArgument() {
        Edges.noIndex(HotelNights::new, "kind 2, no date", hotel -> hotel.closeNight(2, 20240230, true));
        Edges.noIndex(HotelNights::new, "kind -1, no date", hotel -> hotel.closeNight(-1, 0, false));
    }

    private static void promise03StaysThatHaveItKeepIt() {
        HotelNights hotel = new HotelNights();
        Hotels.paid(hotel, 0, 20240226, 3);
        hotel.closeNight(0, 20240227, true);
        Check.same("count", hotel.count(0, 20240227), 1);
        hotel.passes(1);
        Check.same("state", hotel.stayAt(0, 0), HotelNights.PAID);
        Check.same("room", hotel.roomOf(0), 0);
    }

    private static void promise03ClosingTwiceAndOpeningOnce() {
        HotelNights hotel = new HotelNights();
        hotel.closeNight(0, 20240301, true);
        hotel.closeNight(0, 20240301, true);
        hotel.closeNight(0, 20240301, false);
        Check.same("open", Hotels.ask(hotel, 0, 20240301, 1), 0);
    }

    private static void promise03ReturnsHowManyGuestsGotAStay() {
        Check.same("none waits", new HotelNights().closeNight(0, 20240401, false), 0);
        Check.same("one waits", Hotels.withGuests(1).closeNight(0, 20240401, false), 1);
        Check.same("as many as there are rooms", Hotels.withGuests(3).closeNight(0, 20240401, false), 3);
        Check.same("more than there are rooms", Hotels.withGuests(4).closeNight(0, 20240401, false), 3);
        Check.same("another night", Hotels.withGuests(4).closeNight(0, 20240402, false), 0);
        Check.same("closing", Hotels.withGuests(4).closeNight(0, 20240402, true), 0);
    }

    private static void promise04KindIs0To1() {
        Edges.indexes(Hotels::busy, 2, (hotel, kind) -> hotel.setExtra(kind, 1));
        Edges.indexes(Hotels::withSixRooms, 3, (hotel, kind) -> hotel.setExtra(kind, 1));
    }

    private static void promise04ExtraIs0To3() {
        Edges.range(Hotels::busy, 0, 3, (hotel, extra) -> hotel.setExtra(0, extra));
    }

    private static void promise04AnIndexComesAheadOfAnArgument() {
        Edges.noIndex(HotelNights::new, "kind 2, extra 4", hotel -> hotel.setExtra(2, 4));
        Edges.noIndex(HotelNights::new, "kind -1, extra -1", hotel -> hotel.setExtra(-1, -1));
    }

    private static void promise04ReturnsHowManyGuestsGotAStay() {
        for (int extra = 0; extra <= 3; extra++) {
            HotelNights hotel = new HotelNights();
            Hotels.ask(hotel, 1, 20240301, 1);
            for (int i = 0; i < 4; i++) {
                hotel.waitFor(1, 20240301, 1, 1, 0);
            }
            Check.same("extra " + extra, hotel.setExtra(1, extra), extra);
            Check.same("waiting", hotel.waiting(), 4 - extra);
        }
    }

    private static void promise04ALowerExtraKeepsTheStays() {
        HotelNights hotel = new HotelNights();
        hotel.setExtra(1, 3);
        hotel.group(1, 4, 20240301, 1, 20240301);
        Check.same("extra 0", hotel.setExtra(1, 0), 0);
        Check.same("count", hotel.count(1, 20240301), 4);
    }

    private static void promise05PercentageIsMinus50To100() {
        Edges.range(Hotels::busy, -50, 100, (hotel, percentage) -> hotel.addSeason(301, 331, percentage, 1));
    }

    private static void promise05LeastIs1To7() {
        Edges.range(Hotels::busy, 1, 7, (hotel, least) -> hotel.addSeason(301, 331, 0, least));
    }

    private static void promise05FromAndToAreDaysOfALeapYear() {
        Check.same("from 229", new HotelNights().addSeason(229, 301, 0, 1), 0);
        Check.same("to 229", new HotelNights().addSeason(201, 229, 0, 1), 0);
        Edges.noArgument(Hotels::busy, "from 230", hotel -> hotel.addSeason(230, 301, 0, 1));
        Edges.noArgument(Hotels::busy, "to 230", hotel -> hotel.addSeason(201, 230, 0, 1));
    }

    private static void promise05TheFirstAndTheLastDayOfTheYear() {
        Check.same("both", new HotelNights().addSeason(101, 1231, 0, 1), 0);
        Edges.noArgument(Hotels::busy, "from 100", hotel -> hotel.addSeason(100, 1231, 0, 1));
        Edges.noArgument(Hotels::busy, "to 1232", hotel -> hotel.addSeason(101, 1232, 0, 1));
        Edges.noArgument(Hotels::busy, "from 31", hotel -> hotel.addSeason(31, 1231, 0, 1));
        Edges.noArgument(Hotels::busy, "to 1301", hotel -> hotel.addSeason(101, 1301, 0, 1));
    }

    private static HotelNights withFourSeasons() {
        HotelNights hotel = new HotelNights();
        for (int i = 0; i < 4; i++) {
            hotel.addSeason(301, 331, 0, 1);
        }
        return hotel;
    }

    private static void promise05ThrowsIfThereAre4() {
        Edges.noState(Promises01To06EdgesTest::withFourSeasons, "a fifth one",
                hotel -> hotel.addSeason(101, 102, 0, 1));
    }

    private static void promise05AnArgumentComesAheadOfTheState() {
        Edges.noArgument(Promises01To06EdgesTest::withFourSeasons, "from", hotel -> hotel.addSeason(0, 102, 0, 1));
        Edges.noArgument(Promises01To06EdgesTest::withFourSeasons, "to", hotel -> hotel.addSeason(101, 0, 0, 1));
        Edges.noArgument(Promises01To06EdgesTest::withFourSeasons, "-51", hotel -> hotel.addSeason(101, 102, -51, 1));
        Edges.noArgument(Promises01To06EdgesTest::withFourSeasons, "8", hotel -> hotel.addSeason(101, 102, 0, 8));
    }

    private static void promise05ASeasonThatWasUndoneIsGone() {
        HotelNights hotel = new HotelNights();
        hotel.addSeason(301, 331, 50, 2);
        hotel.undo();
        Check.same("price", hotel.priceOf(0, 20240301), 10000);
        Check.same("one night", Hotels.ask(hotel, 0, 20240301, 1), 0);
        Check.same("its number is free again", hotel.addSeason(401, 430, 0, 1), 0);
    }

    private static void promise06PercentageIs0To100() {
        Edges.range(Hotels::busy, 0, 100, (hotel, percentage) -> hotel.setWeekend(percentage, 0));
    }

    private static void promise06TaxIs0To1000() {
        Edges.range(Hotels::busy, 0, 1000, (hotel, tax) -> hotel.setWeekend(0, tax));
    }

    private static void promise06ReturnsTheTaxBefore() {
        HotelNights hotel = new HotelNights();
        Check.same("0 at first", hotel.setWeekend(100, 1000), 0);
        Check.same("the greatest one", hotel.setWeekend(0, 1), 1000);
        Check.same("the one before", hotel.setWeekend(0, 0), 1);
    }

    private static void promise06ACallThatThrowsSetsNeither() {
        HotelNights hotel = new HotelNights();
        Check.noArgument(hotel, "tax 1001", () -> hotel.setWeekend(50, 1001));
        Check.noArgument(hotel, "percentage 101", () -> hotel.setWeekend(101, 500));
        Check.same("Friday", hotel.priceOf(0, 20240301), 10000);
        Check.same("the tax before", hotel.setWeekend(0, 0), 0);
    }
}
