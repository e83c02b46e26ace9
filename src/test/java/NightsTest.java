/** Promises 23 to 33: what is told of kinds, nights, stays, books and waiting guests. */
final class NightsTest {
    private NightsTest() {
    }

    private static void promise23Kinds() {
        HotelNights hotel = new HotelNights();
        Check.same("kinds", hotel.kinds(), 2);
        hotel.addKind(1, 100);
        Check.same("kinds", hotel.kinds(), 3);
        hotel.undo();
        Check.same("kinds", hotel.kinds(), 2);
    }

    private static void promise24Count() {
        HotelNights hotel = new HotelNights();
        hotel.ask(0, 20240301, 2, 1, 0, 20240301);
        hotel.ask(0, 20240302, 2, 1, 0, 20240301);
        hotel.ask(1, 20240302, 1, 1, 0, 20240301);
        int[] due = {0, 1, 2, 1, 0};
        for (int i = 0; i < due.length; i++) {
            int night = hotel.addDays(20240229, i);
            Check.same("count on " + night, hotel.count(0, night), due[i]);
        }
        hotel.pay(0);
        Check.same("a paid one counts", hotel.count(0, 20240301), 1);
        hotel.cancel(1);
        Check.same("a cancelled one does not", hotel.count(0, 20240302), 1);
        Check.same("first date of all", hotel.count(0, 20000101), 0);
        Check.same("last date of all", hotel.count(0, 20991231), 0);
        Check.noIndex(hotel, "kind 2", () -> hotel.count(2, 20240301));
        Check.noIndex(hotel, "index ahead of argument", () -> hotel.count(-1, 0));
        Check.noArgument(hotel, "no date", () -> hotel.count(0, 20240230));
    }

    private static void promise25Greatest() {
        HotelNights hotel = new HotelNights();
        hotel.ask(0, 20240301, 5, 1, 0, 20240301);
        hotel.ask(0, 20240303, 1, 1, 0, 20240301);
        hotel.ask(0, 20240303, 2, 1, 0, 20240301);
        Check.same("all of them", hotel.greatest(0, 20240226, 20240401), 3);
        Check.same("ahead of the greatest", hotel.greatest(0, 20240226, 20240302), 1);
        Check.same("up to the greatest", hotel.greatest(0, 20240226, 20240303), 3);
        Check.same("one night", hotel.greatest(0, 20240303, 20240303), 3);
        Check.same("behind the greatest", hotel.greatest(0, 20240304, 20240401), 2);
        Check.same("none", hotel.greatest(0, 20240306, 20240401), 0);
        Check.same("another kind", hotel.greatest(1, 20240226, 20240401), 0);
        Check.same("400 days", hotel.greatest(0, 20240101, hotel.addDays(20240101, 400)), 3);
        int tooLate = hotel.addDays(20240101, 401);
        Check.noArgument(hotel, "401 days", () -> hotel.greatest(0, 20240101, tooLate));
        Check.noArgument(hotel, "to ahead of from", () -> hotel.greatest(0, 20240302, 20240301));
        Check.noArgument(hotel, "from no date", () -> hotel.greatest(0, 20240230, 20240301));
        Check.noArgument(hotel, "to no date", () -> hotel.greatest(0, 20240301, 20240332));
        Check.noIndex(hotel, "kind 2", () -> hotel.greatest(2, 20240302, 20240301));
        Check.noIndex(hotel, "kind -1", () -> hotel.greatest(-1, 20240301, 20240301));
    }

    private static void promise26Needed() {
        HotelNights hotel = new HotelNights();
        Check.same("none", hotel.needed(0), 0);
        hotel.setExtra(0, 3);
        hotel.ask(0, 20240301, 2, 1, 0, 20240301);
        hotel.ask(0, 20240303, 2, 1, 0, 20240301);
        Check.same("one behind the other", hotel.needed(0), 1);
        hotel.ask(0, 20240302, 2, 1, 0, 20240301);
        Check.same("over both", hotel.needed(0), 2);
        hotel.group(0, 4, 20240304, 1, 20240301);
        Check.same("more than the rooms", hotel.needed(0), 5);
        hotel.letGo(0);
        Check.same("cancelled ones need none", hotel.needed(0), 2);
        Check.same("another kind", hotel.needed(1), 0);
        Check.noIndex(hotel, "kind 2", () -> hotel.needed(2));
        Check.noIndex(hotel, "kind -1", () -> hotel.needed(-1));
    }

    private static void promise27RefusedNight() {
        HotelNights hotel = new HotelNights();
        hotel.closeNight(0, 20240302, true);
        Check.same("none", hotel.refusedNight(), 0);
        hotel.ask(0, 20240301, 2, 1, 0, 20240301);
        Check.same("of ask", hotel.refusedNight(), 20240302);
        hotel.ask(0, 20240229, 2, 1, 0, 20240229);
        Check.same("a stay that is not refused leaves it", hotel.refusedNight(), 20240302);
        hotel.group(1, 2, 20240401, 3, 20240301);
        Check.same("of group", hotel.refusedNight(), 20240401);
        hotel.longer(0, 1);
        Check.same("of longer", hotel.refusedNight(), 20240302);
        hotel.addSeason(301, 331, 0, 4);
        hotel.ask(1, 20240310, 3, 1, 0, 20240301);
        Check.same("too few nights", hotel.refusedNight(), 20240310);
        hotel.waitFor(0, 20240302, 1, 1, 0);
        hotel.setExtra(0, 1);
        Check.same("a guest that waits on leaves it", hotel.refusedNight(), 20240310);
    }

    private static void promise28StayAt() {
        HotelNights hotel = new HotelNights();
        hotel.setWeekend(0, 11);
        hotel.group(1, 1, 20240301, 2, 20240229);
        hotel.ask(0, 20240302, 3, 2, 3, 20240301);
        hotel.pay(1);
        int[] first = {HotelNights.HELD, 1, 20240301, 2, 50000, 0, 22, 0, 20240229};
        int[] second = {HotelNights.PAID, 0, 20240302, 3, 30000, 6000, 3 * (22 + 18), -1, 20240301};
        for (int what = 0; what <= 8; what++) {
            Check.same("stay 0, " + what, hotel.stayAt(0, what), first[what]);
            Check.same("stay 1, " + what, hotel.stayAt(1, what), second[what]);
        }
        Check.noIndex(hotel, "stay 2", () -> hotel.stayAt(2, 0));
        Check.noIndex(hotel, "index ahead of argument", () -> hotel.stayAt(-1, 9));
        Check.noArgument(hotel, "what 9", () -> hotel.stayAt(0, 9));
        Check.noArgument(hotel, "what -1", () -> hotel.stayAt(0, -1));
    }

    private static void promise29RoomOf() {
        HotelNights hotel = new HotelNights();
        hotel.setExtra(0, 1);
        int[][] asked = {{20240305, 2}, {20240301, 3}, {20240301, 1}, {20240302, 2}, {20240303, 4}, {20240303, 1},
            {20240304, 1}};
        int[] due = {0, 0, 1, 1, 2, HotelNights.NONE, 0};
        for (int i = 0; i < asked.length; i++) {
            Check.same("stay", hotel.ask(0, asked[i][0], asked[i][1], 1, 0, 20240226), i);
        }
        for (int i = 0; i < asked.length; i++) {
            Check.same("room of " + i, hotel.roomOf(i), due[i]);
        }
        hotel.cancel(3);
        Check.same("a room came free", hotel.roomOf(5), 2);
        Check.same("and the rooms moved", hotel.roomOf(4), 1);
        Check.noState(hotel, "cancelled", () -> hotel.roomOf(3));
        Check.noIndex(hotel, "stay 7", () -> hotel.roomOf(7));
        Check.noIndex(hotel, "stay -1", () -> hotel.roomOf(-1));
    }

    private static void promise29RoomsOfEqualFirstNights() {
        HotelNights hotel = new HotelNights();
        hotel.setExtra(1, 3);
        hotel.ask(1, 20240302, 1, 1, 0, 20240226);
        hotel.ask(1, 20240302, 2, 1, 0, 20240226);
        hotel.ask(1, 20240301, 1, 1, 0, 20240226);
        Check.same("the lower number is ahead", hotel.roomOf(0), 0);
        Check.same("the greater one finds none", hotel.roomOf(1), HotelNights.NONE);
        Check.same("the earlier night", hotel.roomOf(2), 0);
        hotel.longer(2, 1);
        Check.same("its last night is their first one", hotel.roomOf(0), HotelNights.NONE);
        hotel.setExtra(1, 0);
        Check.same("rooms have nothing of the extra", hotel.roomOf(1), HotelNights.NONE);
        hotel.ask(0, 20240302, 1, 1, 0, 20240226);
        Check.same("each kind has rooms of its own", hotel.roomOf(3), 0);
    }

    private static void promise30PriceOf() {
        HotelNights hotel = new HotelNights();
        hotel.addKind(6, 1000);
        hotel.setExtra(2, 3);
        int[] due = {1000, 1000, 1100, 1200, 1200, 1300, 1400, 1400, 1500, 1600};
        for (int taken = 0; taken < due.length; taken++) {
            Check.same("price with " + taken, hotel.priceOf(2, 20240301), due[taken]);
            hotel.ask(2, 20240301, 1, 1, 0, 20240301);
        }
        Check.same("on another night", hotel.priceOf(2, 20240302), 1000);
        hotel.cancel(0);
        Check.same("with 8", hotel.priceOf(2, 20240301), 1500);
        hotel.setExtra(1, 3);
        hotel.group(1, 4, 20240301, 1, 20240301);
        Check.same("four stays in one room", hotel.priceOf(1, 20240301), 25000 * 26 / 10);
        Check.same("first date of all", hotel.priceOf(0, 20000101), 10000);
        Check.same("last date of all", hotel.priceOf(0, 20991231), 10000);
        Check.noIndex(hotel, "kind 3", () -> hotel.priceOf(3, 20240301));
        Check.noIndex(hotel, "index ahead of argument", () -> hotel.priceOf(-1, 0));
        Check.noArgument(hotel, "no date", () -> hotel.priceOf(0, 20250229));
    }

    private static void promise31Refund() {
        HotelNights hotel = new HotelNights();
        hotel.addKind(1, 105);
        hotel.ask(2, 20240312, 1, 1, 0, 20240301);
        Check.same("held", hotel.refund(0), 0);
        hotel.pay(0);
        int[] due = {21, 21, 11, 11};
        for (int i = 0; i < due.length; i++) {
            Check.same("refund on day " + i, hotel.refund(0), due[i]);
            hotel.passes(1);
        }
        hotel.passes(8);
        Check.same("3 days", hotel.refund(0), 11);
        hotel.passes(1);
        Check.same("2 days", hotel.refund(0), 0);
        hotel.passes(3);
        Check.same("over", hotel.refund(0), 0);
        Check.noIndex(hotel, "stay 1", () -> hotel.refund(1));
        Check.noIndex(hotel, "stay -1", () -> hotel.refund(-1));
    }

    private static void promise32Book() {
        HotelNights hotel = new HotelNights();
        hotel.setWeekend(0, 50);
        hotel.ask(0, 20240226, 2, 2, 0, 20240226);
        hotel.ask(1, 20240310, 1, 1, 0, 20240301);
        hotel.pay(0);
        hotel.pay(1);
        long[][] due = {{-9000, 9000, 0, 0}, {-25200, 5000, 20000, 200}, {-22700, 0, 22500, 200}};
        booksAre(hotel, "two are paid", due[0]);
        hotel.passes(2);
        booksAre(hotel, "one is over", due[1]);
        hotel.cancel(1);
        booksAre(hotel, "one is cancelled", due[2]);
        Check.noIndex(hotel, "book 4", () -> hotel.book(4));
        Check.noIndex(hotel, "book -1", () -> hotel.book(-1));
    }

    private static void booksAre(HotelNights hotel, String when, long[] due) {
        for (int book = 0; book < 4; book++) {
            Check.same(when + ", book " + book, hotel.book(book), due[book]);
        }
    }

    private static void promise33Waiting() {
        HotelNights hotel = new HotelNights();
        Check.same("none", hotel.waiting(), 0);
        hotel.waitFor(0, 20240301, 1, 1, 0);
        hotel.waitFor(0, 20240302, 1, 1, 0);
        Check.same("two", hotel.waiting(), 2);
        hotel.undo();
        Check.same("one", hotel.waiting(), 1);
        hotel.passes(1);
        Check.same("got a stay", hotel.waiting(), 0);
    }
}
