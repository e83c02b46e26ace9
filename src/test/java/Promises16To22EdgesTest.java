import java.util.List;

/** Promises 16 to 22: each range, each exception, and their order. */
final class Promises16To22EdgesTest {
    private static final int NONE = HotelNights.NONE;

    private Promises16To22EdgesTest() {
    }

    private static HotelNights withASale() {
        HotelNights hotel = Hotels.withTwoSorts();
        hotel.sell(2, 1);
        return hotel;
    }

    private static HotelNights withAnEndedSale() {
        HotelNights hotel = new HotelNights();
        hotel.sell(1, 1);
        hotel.offer(5);
        return hotel;
    }

    private static void promise16SortIs0To3() {
        Edges.indexes(Hotels::busy, 4, (hotel, sort) -> hotel.setOdds(sort, 100, 100));
    }

    private static void promise16PriceIs0To100000() {
        Edges.range(Hotels::busy, 0, 100000, (hotel, price) -> hotel.setOdds(0, price, 100));
    }

    private static void promise16OddsAre0To1000() {
        Edges.range(HotelNights::new, 0, 1000, (hotel, odds) -> hotel.setOdds(3, 100, odds));
    }

    private static void promise16TheOddsOfAllAreAtMost1000() {
        Edges.range(Hotels::withTwoSorts, 0, 250, (hotel, odds) -> hotel.setOdds(1, 100, odds));
        Edges.range(Hotels::withTwoSorts, 0, 750, (hotel, odds) -> hotel.setOdds(0, 100, odds));
        Edges.range(Hotels::withTwoSorts, 0, 500, (hotel, odds) -> hotel.setOdds(3, 100, odds));
    }

    private static void promise16AnIndexComesAheadOfAnArgument() {
        Edges.noIndex(Hotels::busy, "price", hotel -> hotel.setOdds(4, -1, 0));
        Edges.noIndex(Hotels::busy, "odds", hotel -> hotel.setOdds(-1, 0, 1001));
    }

    private static void promise16ReturnsTheOddsOfAllSortsTogether() {
        HotelNights hotel = new HotelNights();
        Check.same("first", hotel.setOdds(0, 1, 250), 250);
        Check.same("second", hotel.setOdds(1, 1, 250), 500);
        Check.same("third", hotel.setOdds(2, 1, 250), 750);
        Check.same("fourth", hotel.setOdds(3, 1, 250), 1000);
        Check.same("none of the second", hotel.setOdds(1, 1, 0), 750);
    }

    private static void promise16ACallThatThrowsSetsNeither() {
        HotelNights hotel = Hotels.withTwoSorts();
        long before = hotel.awaited(1, 1);
        Check.noArgument(hotel, "odds", () -> hotel.setOdds(0, 5, 751));
        Check.noArgument(hotel, "price", () -> hotel.setOdds(0, 100001, 1));
        Check.same("awaited", hotel.awaited(1, 1), before);
    }

    private static void promise17DaysAre1To4() {
        Edges.range(Hotels::busy, 1, 4, (hotel, days) -> hotel.sell(days, 1));
    }

    private static void promise17RoomsAre1To4() {
        Edges.range(Hotels::busy, 1, 4, (hotel, rooms) -> hotel.sell(1, rooms));
    }

    private static void promise17ReturnsItsFirstLimit() {
        HotelNights hotel = Hotels.withTwoSorts();
        Check.same("1 day, 1 room", hotel.sell(1, 1), 0);
        Check.same("2 days, 1 room", hotel.sell(2, 1), 6000);
        Check.same("3 days, 1 room", hotel.sell(3, 1), 8000);
        Check.same("4 days, 1 room", hotel.sell(4, 1), 9000);
        Check.same("3 days, 2 rooms", hotel.sell(3, 2), 4000);
        Check.same("4 days, 4 rooms", hotel.sell(4, 4), 0);
    }

    private static void promise17InPlaceOfTheOneThatThereIs() {
        HotelNights hotel = withASale();
        hotel.offer(7000);
        hotel.sell(4, 3);
        int[] due = {4, 3, 0, 0};
        for (int what = 0; what < 4; what++) {
            Check.same("what " + what, hotel.saleAt(what), due[what]);
        }
        hotel.undo();
        int[] before = {1, 0, 7000, 7000};
        for (int what = 0; what < 4; what++) {
            Check.same("what " + what + ", undone", hotel.saleAt(what), before[what]);
        }
    }

    private static void promise18PriceIs0To100000() {
        Edges.range(Promises16To22EdgesTest::withASale, 0, 100000, (hotel, price) -> hotel.offer(price));
    }

    private static void promise18ThrowsIfThereIsNoSale() {
        Edges.noState(HotelNights::new, "offer", hotel -> hotel.offer(5));
        Edges.noState(Hotels::withTwoSorts, "offer", hotel -> hotel.offer(5));
    }

    private static void promise18ThrowsIfNoDayIsLeft() {
        Edges.noState(Promises16To22EdgesTest::withAnEndedSale, "offer", hotel -> hotel.offer(5));
        HotelNights hotel = new HotelNights();
        hotel.sell(4, 1);
        for (int i = 0; i < 4; i++) {
            hotel.offer(0);
        }
        Check.noState(hotel, "a fifth offer", () -> hotel.offer(0));
    }

    private static void promise18AnArgumentComesAheadOfTheState() {
        Edges.noArgument(HotelNights::new, "-1", hotel -> hotel.offer(-1));
        Edges.noArgument(Promises16To22EdgesTest::withAnEndedSale, "100001", hotel -> hotel.offer(100001));
    }

    private static void promise18ReturnsTheIncomeSoFar() {
        HotelNights hotel = new HotelNights();
        hotel.sell(4, 4);
        int income = 0;
        int[] offers = {100000, 0, 1, 100000};
        for (int price : offers) {
            income += price;
            Check.same("income", hotel.offer(price), income);
        }
        Check.same("together", income, 200001);
    }

    private static void promise18ReturnsNoneIfItIsNotTaken() {
        HotelNights hotel = withASale();
        Check.same("below the limit", hotel.offer(5999), NONE);
        Check.same("taken", hotel.offer(5999), 5999);
        HotelNights full = new HotelNights();
        full.sell(2, 1);
        full.offer(1);
        Check.same("no room", full.offer(1), NONE);
    }

    private static void promise19ReturnsTheNumberOfChangesThatCanStillBeUndone() {
        for (int changes = 0; changes <= 9; changes++) {
            HotelNights hotel = new HotelNights();
            for (int i = 0; i < changes; i++) {
                hotel.setExtra(0, i % 4);
            }
            int due = changes == 0 ? NONE : Math.min(changes, 6) - 1;
            Check.same("behind " + changes + " changes", hotel.undo(), due);
        }
    }

    private static void promise19NoneIfThereWasNoneToUndo() {
        HotelNights hotel = new HotelNights();
        hotel.passes(1);
        Check.same("the only one", hotel.undo(), 0);
        String before = Look.at(hotel);
        Check.same("none", hotel.undo(), NONE);
        Check.same("none again", hotel.undo(), NONE);
        Check.same("nothing is different", Look.at(hotel), before);
    }

    private static void promise19TheSeventhChangeIsOutOfReach() {
        HotelNights hotel = new HotelNights();
        for (int i = 0; i < 7; i++) {
            hotel.passes(1);
        }
        for (int i = 5; i >= 0; i--) {
            Check.same("undo", hotel.undo(), i);
        }
        Check.same("a seventh undo", hotel.undo(), NONE);
        Check.same("today", hotel.today(), 20240227);
    }

    private static void promise19BehindUndoAsManyChangesCanBeMade() {
        HotelNights hotel = new HotelNights();
        for (int i = 0; i < 6; i++) {
            hotel.passes(1);
        }
        hotel.undo();
        hotel.undo();
        hotel.passes(2);
        Check.same("four and one", hotel.undo(), 4);
        Check.same("today", hotel.today(), 20240301);
    }

    private static void promise19AllThatTheSectionsTellComesBack() {
        List<String> before = Edges.states(Hotels.busy());
        HotelNights hotel = Hotels.busy();
        hotel.passes(31);
        hotel.undo();
        hotel.letGo(0);
        hotel.undo();
        hotel.ask(1, 20240226, 14, 1, 0, 20240226);
        Check.same("six at most", hotel.undo(), 5);
        List<String> got = Edges.states(hotel);
        Check.same("the states that undo brings back", got, before.subList(0, 6));
    }

    private static void promise20Returns20240226AtFirst() {
        Check.same("today", new HotelNights().today(), 20240226);
    }

    private static void promise20BehindDaysThatPassed() {
        HotelNights hotel = new HotelNights();
        hotel.passes(31);
        hotel.passes(31);
        Check.same("62 days", hotel.today(), 20240428);
    }

    private static void promise21ThrowsIfItIsNoDate() {
        Edges.dates(Hotels::busy, (hotel, date) -> hotel.dayOfWeek(date));
    }

    private static void promise21TheSevenDays() {
        HotelNights hotel = new HotelNights();
        for (int i = 0; i < 7; i++) {
            Check.same("day " + i, hotel.dayOfWeek(hotel.addDays(20240226, i)), i + 1);
        }
        Check.same("Monday again", hotel.dayOfWeek(20240304), 1);
    }

    private static void promise21TheFirstAndTheLastDate() {
        HotelNights hotel = new HotelNights();
        Check.same("20000101 was a Saturday", hotel.dayOfWeek(20000101), 6);
        Check.same("20991231 is a Thursday", hotel.dayOfWeek(20991231), 4);
    }

    private static void promise21AroundALeapDay() {
        HotelNights hotel = new HotelNights();
        Check.same("20240228", hotel.dayOfWeek(20240228), 3);
        Check.same("20240229", hotel.dayOfWeek(20240229), 4);
        Check.same("20240301", hotel.dayOfWeek(20240301), 5);
        Check.same("20230228", hotel.dayOfWeek(20230228), 2);
        Check.same("20230301", hotel.dayOfWeek(20230301), 3);
    }

    private static void promise22DaysAreMinus1000To1000() {
        Edges.range(Hotels::busy, -1000, 1000, (hotel, days) -> hotel.addDays(20240226, days));
    }

    private static void promise22ThrowsIfDateIsNoDate() {
        Edges.dates(Hotels::busy, (hotel, date) -> hotel.addDays(date, 0));
    }

    private static void promise22TheResultIsNotAheadOf20000101() {
        Edges.range(Hotels::busy, -40, 1000, (hotel, days) -> hotel.addDays(20000210, days));
        Check.same("the first date", new HotelNights().addDays(20000210, -40), 20000101);
    }

    private static void promise22TheResultIsNotBehind20991231() {
        Edges.range(Hotels::busy, -1000, 40, (hotel, days) -> hotel.addDays(20991121, days));
        Check.same("the last date", new HotelNights().addDays(20991121, 40), 20991231);
    }

    private static void promise22NoDayAtAll() {
        HotelNights hotel = new HotelNights();
        int[] dates = {20000101, 20240229, 20230228, 20241231, 20991231};
        for (int date : dates) {
            Check.same("0 days", hotel.addDays(date, 0), date);
        }
    }

    private static void promise22OverYearsWithLeapDays() {
        HotelNights hotel = new HotelNights();
        Check.same("1000 days behind", hotel.addDays(20240226, 1000), 20261122);
        Check.same("1000 days ahead", hotel.addDays(20240226, -1000), 20210601);
        Check.same("a leap year", hotel.addDays(20240101, 366), 20250101);
        Check.same("another year", hotel.addDays(20250101, 365), 20260101);
        Check.same("a leap year ahead", hotel.addDays(20250101, -366), 20240101);
        Check.same("from one leap day on", hotel.addDays(20240229, 366), 20250301);
    }
}
