/** Promises 1 to 6: a new object, kinds, closed nights, extras, seasons, the weekend. */
final class KindsTest {
    private KindsTest() {
    }

    private static void promise01NewObject() {
        HotelNights hotel = new HotelNights();
        Check.same("kinds", hotel.kinds(), 2);
        Check.same("price of kind 0", hotel.priceOf(0, 20240226), 10000);
        Check.same("price of kind 1", hotel.priceOf(1, 20240226), 25000);
        Check.same("refused night", hotel.refusedNight(), 0);
        Check.same("today", hotel.today(), 20240226);
        Check.same("waiting", hotel.waiting(), 0);
        Check.same("undo", hotel.undo(), HotelNights.NONE);
        for (int i = 0; i < 3; i++) {
            Check.same("stay of kind 0", hotel.ask(0, 20240226, 1, 1, 0, 20240226), i);
        }
        Check.same("fourth stay of kind 0", hotel.ask(0, 20240226, 1, 1, 0, 20240226), HotelNights.NONE);
        Check.same("stay of kind 1", hotel.ask(1, 20240226, 1, 1, 0, 20240226), 3);
        Check.same("second stay of kind 1", hotel.ask(1, 20240226, 1, 1, 0, 20240226), HotelNights.NONE);
        for (int book = 0; book < 4; book++) {
            Check.same("book", hotel.book(book), 0);
        }
    }

    private static void promise02AddKind() {
        HotelNights hotel = new HotelNights();
        Check.noArgument(hotel, "no room", () -> hotel.addKind(0, 100));
        Check.noArgument(hotel, "7 rooms", () -> hotel.addKind(7, 100));
        Check.noArgument(hotel, "price 99", () -> hotel.addKind(1, 99));
        Check.noArgument(hotel, "price 100001", () -> hotel.addKind(1, 100001));
        Check.same("the least kind", hotel.addKind(1, 100), 2);
        Check.same("its price", hotel.priceOf(2, 20240226), 100);
        hotel.undo();
        Check.same("the greatest kind", hotel.addKind(6, 100000), 2);
        Check.same("its price", hotel.priceOf(2, 20240226), 100000);
        Check.same("kinds", hotel.kinds(), 3);
        Check.same("six stays", hotel.group(2, 6, 20240226, 1, 20240226), 0);
        Check.same("one more", hotel.ask(2, 20240226, 1, 1, 0, 20240226), HotelNights.NONE);
        Check.noState(hotel, "a fourth kind", () -> hotel.addKind(1, 100));
        Check.noArgument(hotel, "argument ahead of state", () -> hotel.addKind(1, 99));
    }

    private static void promise03CloseNight() {
        HotelNights hotel = new HotelNights();
        hotel.ask(0, 20240229, 3, 1, 0, 20240229);
        Check.same("closing", hotel.closeNight(0, 20240301, true), 0);
        Check.same("closing again", hotel.closeNight(0, 20240301, true), 0);
        Check.same("a stay keeps its night", hotel.count(0, 20240301), 1);
        Check.same("refused", hotel.ask(0, 20240229, 3, 1, 0, 20240229), HotelNights.NONE);
        Check.same("refused night", hotel.refusedNight(), 20240301);
        Check.same("the night ahead", hotel.ask(0, 20240229, 1, 1, 0, 20240229), 1);
        Check.same("the night behind", hotel.ask(0, 20240302, 1, 1, 0, 20240229), 2);
        Check.same("another kind", hotel.ask(1, 20240301, 1, 1, 0, 20240229), 3);
        Check.same("the same day a year on", hotel.ask(0, 20250225, 1, 1, 0, 20240229), 4);
        Check.same("opening", hotel.closeNight(0, 20240301, false), 0);
        Check.same("open", hotel.ask(0, 20240301, 1, 1, 0, 20240229), 5);
        Check.same("first date of all", hotel.closeNight(1, 20000101, true), 0);
        Check.same("last date of all", hotel.closeNight(1, 20991231, true), 0);
        Check.noIndex(hotel, "kind 2", () -> hotel.closeNight(2, 20240301, true));
        Check.noIndex(hotel, "kind -1", () -> hotel.closeNight(-1, 20240301, false));
        Check.noIndex(hotel, "index ahead of argument", () -> hotel.closeNight(2, 20240230, true));
        Check.noArgument(hotel, "no date", () -> hotel.closeNight(0, 20240230, true));
    }

    private static void promise03OpeningLetsGuestsIn() {
        HotelNights hotel = new HotelNights();
        hotel.closeNight(0, 20240301, true);
        hotel.waitFor(0, 20240301, 1, 1, 0);
        hotel.waitFor(0, 20240229, 3, 2, 1);
        hotel.waitFor(1, 20240301, 1, 1, 0);
        Check.same("closing another night looks at nobody", hotel.closeNight(1, 20240401, true), 0);
        Check.same("waiting", hotel.waiting(), 3);
        Check.same("opening", hotel.closeNight(0, 20240301, false), 3);
        Check.same("waiting", hotel.waiting(), 0);
        Check.same("stays in the order of waiting", hotel.stayAt(1, 2), 20240229);
        Check.same("held till the first night", hotel.stayAt(1, 8), 20240229);
        Check.same("no group", hotel.stayAt(1, 7), HotelNights.NONE);
        Check.same("held", hotel.stayAt(1, 0), HotelNights.HELD);
        Check.same("price behind the first one", hotel.stayAt(1, 4), 10000 + 11000 + 10000);
    }

    private static void promise03ClosedNightsOfAKindThatWasUndone() {
        HotelNights hotel = new HotelNights();
        hotel.addKind(1, 100);
        hotel.setExtra(2, 1);
        hotel.closeNight(2, 20240301, true);
        hotel.undo();
        hotel.undo();
        hotel.undo();
        hotel.addKind(1, 100);
        Check.same("open in the new kind", hotel.ask(2, 20240301, 1, 1, 0, 20240301), 0);
        Check.same("no extra in the new kind", hotel.ask(2, 20240301, 1, 1, 0, 20240301), HotelNights.NONE);
    }

    private static void promise03EachNightIsClosedForItself() {
        HotelNights hotel = new HotelNights();
        for (int i = 0; i < 100; i++) {
            hotel.closeNight(0, hotel.addDays(20240301, i), i % 3 != 0);
        }
        hotel.closeNight(0, 20240302, false);
        for (int i = 0; i < 100; i++) {
            int night = hotel.addDays(20240301, i);
            boolean isOpen = i % 3 == 0 || i == 1;
            Check.same("night " + night, hotel.ask(0, night, 1, 1, 0, 20240301) != HotelNights.NONE, isOpen);
        }
    }

    private static void promise04SetExtra() {
        HotelNights hotel = new HotelNights();
        Check.same("extra 3", hotel.setExtra(1, 3), 0);
        Check.same("four stays", hotel.group(1, 4, 20240301, 1, 20240301), 0);
        Check.same("a fifth", hotel.ask(1, 20240301, 1, 1, 0, 20240301), HotelNights.NONE);
        Check.same("extra 0", hotel.setExtra(1, 0), 0);
        Check.same("the stays are kept", hotel.count(1, 20240301), 4);
        Check.same("one on another night", hotel.ask(1, 20240302, 1, 1, 0, 20240301), 4);
        Check.same("a second there", hotel.ask(1, 20240302, 1, 1, 0, 20240301), HotelNights.NONE);
        Check.noIndex(hotel, "kind 2", () -> hotel.setExtra(2, 1));
        Check.noIndex(hotel, "kind -1", () -> hotel.setExtra(-1, 9));
        Check.noArgument(hotel, "extra -1", () -> hotel.setExtra(0, -1));
        Check.noArgument(hotel, "extra 4", () -> hotel.setExtra(0, 4));
    }

    private static void promise04ExtraLetsGuestsIn() {
        HotelNights hotel = new HotelNights();
        hotel.ask(1, 20240301, 1, 1, 0, 20240301);
        for (int i = 0; i < 4; i++) {
            hotel.waitFor(1, 20240301, 1, 1, i);
        }
        Check.same("extra 1", hotel.setExtra(1, 1), 1);
        Check.same("extra 3", hotel.setExtra(1, 3), 2);
        Check.same("waiting", hotel.waiting(), 1);
        Check.same("extra 3 again", hotel.setExtra(1, 3), 0);
        hotel.undo();
        hotel.undo();
        hotel.undo();
        Check.same("no extra", hotel.ask(1, 20240301, 1, 1, 0, 20240301), HotelNights.NONE);
    }

    private static void promise05AddSeason() {
        HotelNights hotel = new HotelNights();
        Check.noArgument(hotel, "from 230", () -> hotel.addSeason(230, 301, 0, 1));
        Check.noArgument(hotel, "to 1301", () -> hotel.addSeason(101, 1301, 0, 1));
        Check.noArgument(hotel, "to 431", () -> hotel.addSeason(101, 431, 0, 1));
        Check.noArgument(hotel, "from 0", () -> hotel.addSeason(0, 301, 0, 1));
        Check.noArgument(hotel, "from -101", () -> hotel.addSeason(-101, 301, 0, 1));
        Check.noArgument(hotel, "from 10101", () -> hotel.addSeason(10101, 301, 0, 1));
        Check.noArgument(hotel, "to 100", () -> hotel.addSeason(101, 100, 0, 1));
        Check.noArgument(hotel, "percentage -51", () -> hotel.addSeason(101, 301, -51, 1));
        Check.noArgument(hotel, "percentage 101", () -> hotel.addSeason(101, 301, 101, 1));
        Check.noArgument(hotel, "least 0", () -> hotel.addSeason(101, 301, 0, 0));
        Check.noArgument(hotel, "least 8", () -> hotel.addSeason(101, 301, 0, 8));
        Check.same("over the end of the year", hotel.addSeason(1230, 102, 100, 7), 0);
        Check.same("the leap day alone", hotel.addSeason(229, 229, -50, 1), 1);
        Check.same("in the year", hotel.addSeason(501, 531, 10, 1), 2);
        int[][] due = {{20241229, 10000}, {20241230, 20000}, {20241231, 20000}, {20250101, 20000}, {20250102, 20000},
            {20250103, 10000}, {20240228, 10000}, {20240229, 5000}, {20240301, 10000}, {20250228, 10000},
            {20990430, 10000}, {20990501, 11000}, {20990531, 11000}, {20990601, 10000}};
        for (int[] pair : due) {
            Check.same("price of " + pair[0], hotel.priceOf(0, pair[0]), pair[1]);
        }
        Check.same("a fourth season", hotel.addSeason(1231, 101, 25, 1), 3);
        Check.same("sum of two seasons", hotel.priceOf(0, 20241231), 22500);
        Check.same("one of them", hotel.priceOf(0, 20241230), 20000);
        Check.noState(hotel, "a fifth season", () -> hotel.addSeason(101, 102, 0, 1));
        hotel.undo();
        Check.same("the fourth one again", hotel.addSeason(1231, 101, 25, 1), 3);
        Check.noArgument(hotel, "argument ahead of state", () -> hotel.addSeason(101, 102, 0, 8));
    }

    private static void promise05LeastNights() {
        HotelNights hotel = new HotelNights();
        hotel.addSeason(301, 310, 0, 3);
        hotel.addSeason(305, 320, 0, 2);
        Check.same("too short in both", hotel.ask(0, 20240305, 2, 1, 0, 20240301), HotelNights.NONE);
        Check.same("refused night", hotel.refusedNight(), 20240305);
        Check.same("long enough", hotel.ask(0, 20240305, 3, 1, 0, 20240301), 0);
        Check.same("in the second one", hotel.ask(0, 20240311, 2, 1, 0, 20240301), 1);
        Check.same("too short in the second one", hotel.ask(0, 20240311, 1, 1, 0, 20240301), HotelNights.NONE);
        Check.same("the first night counts", hotel.ask(0, 20240229, 2, 1, 0, 20240229), 2);
        Check.same("refused for a group", hotel.group(0, 2, 20240301, 2, 20240229), HotelNights.NONE);
        Check.same("refused night", hotel.refusedNight(), 20240301);
        hotel.closeNight(0, 20240302, true);
        hotel.ask(0, 20240301, 2, 1, 0, 20240229);
        Check.same("a night that cannot be had comes first", hotel.refusedNight(), 20240302);
        Check.same("longer does not ask for it", hotel.longer(1, 1), 10000);
    }

    private static void promise05PricesRoundedAndNeverBelowZero() {
        HotelNights hotel = new HotelNights();
        hotel.addKind(1, 150);
        hotel.addSeason(301, 301, 1, 1);
        Check.same("151.5", hotel.priceOf(2, 20240301), 152);
        hotel.addSeason(302, 303, -49, 1);
        Check.same("76.5", hotel.priceOf(2, 20240302), 77);
        hotel.addSeason(303, 304, -50, 1);
        Check.same("1.5", hotel.priceOf(2, 20240303), 2);
        hotel.addSeason(303, 303, -50, 1);
        Check.same("a sum below 0", hotel.priceOf(2, 20240303), 0);
        Check.same("a stay for nothing", hotel.ask(2, 20240303, 1, 1, 0, 20240301), 0);
        Check.same("its price", hotel.stayAt(0, 4), 0);
        Check.same("-49 and 40", hotel.priceOf(2, 20240303), 0);
        Check.same("its deposit", hotel.pay(0), 0);
        HotelNights other = new HotelNights();
        other.addKind(1, 149);
        other.addSeason(301, 301, 1, 1);
        Check.same("150.49", other.priceOf(2, 20240301), 150);
    }

    private static void promise06SetWeekend() {
        HotelNights hotel = new HotelNights();
        Check.same("tax before", hotel.setWeekend(20, 1000), 0);
        Check.same("tax before", hotel.setWeekend(100, 7), 1000);
        hotel.undo();
        Check.same("tax before, undone", hotel.setWeekend(100, 0), 1000);
        int[] due = {10000, 10000, 10000, 10000, 20000, 20000, 10000};
        for (int i = 0; i < 7; i++) {
            int night = hotel.addDays(20240226, i);
            Check.same("price of " + night, hotel.priceOf(0, night), due[i]);
        }
        Check.noArgument(hotel, "percentage -1", () -> hotel.setWeekend(-1, 0));
        Check.noArgument(hotel, "percentage 101", () -> hotel.setWeekend(101, 0));
        Check.noArgument(hotel, "tax -1", () -> hotel.setWeekend(0, -1));
        Check.noArgument(hotel, "tax 1001", () -> hotel.setWeekend(0, 1001));
        hotel.addSeason(301, 301, -30, 1);
        Check.same("with a season", hotel.priceOf(0, 20240301), 17000);
        hotel.ask(0, 20240301, 1, 1, 0, 20240301);
        Check.same("with a season and a stay", hotel.priceOf(0, 20240301), 18000);
    }

    private static void promise06TaxOfAStay() {
        HotelNights hotel = new HotelNights();
        hotel.setWeekend(0, 1);
        hotel.ask(0, 20240305, 2, 3, 4, 20240301);
        Check.same("half a cent up", hotel.stayAt(0, 6), 2 * (3 + 4));
        hotel.waitFor(0, 20240305, 1, 1, 1);
        Check.same("tax before", hotel.setWeekend(0, 301), 1);
        hotel.longer(0, 1);
        Check.same("tax as it was asked for", hotel.stayAt(0, 6), 3 * (3 + 4));
        hotel.shorter(0, 2);
        Check.same("less tax", hotel.stayAt(0, 6), 3 + 4);
        Check.same("the guest got a stay", hotel.waiting(), 0);
        Check.same("tax as the guest got it", hotel.stayAt(1, 6), 301 + 151);
    }
}
