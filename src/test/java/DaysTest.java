/** Promise 15: days that pass. */
final class DaysTest {
    private DaysTest() {
    }

    private static void promise15Passes() {
        HotelNights hotel = new HotelNights();
        Check.same("one day", hotel.passes(1), 20240227);
        Check.same("over the leap day", hotel.passes(3), 20240301);
        Check.same("31 days", hotel.passes(31), 20240401);
        Check.same("today", hotel.today(), 20240401);
        Check.noArgument(hotel, "0 days", () -> hotel.passes(0));
        Check.noArgument(hotel, "32 days", () -> hotel.passes(32));
        Check.noArgument(hotel, "-1 days", () -> hotel.passes(-1));
        Check.noArgument(hotel, "most days", () -> hotel.passes(Integer.MAX_VALUE));
    }

    private static void promise15Over() {
        HotelNights hotel = new HotelNights();
        hotel.setWeekend(0, 101);
        hotel.ask(0, 20240226, 2, 1, 1, 20240226);
        hotel.pay(0);
        hotel.passes(1);
        Check.same("on its last night", hotel.stayAt(0, 0), HotelNights.PAID);
        hotel.passes(1);
        Check.same("behind it", hotel.stayAt(0, 0), HotelNights.OVER);
        Check.same("guests", hotel.book(HotelNights.GUESTS), -20304);
        Check.same("deposits", hotel.book(HotelNights.DEPOSITS), 0);
        Check.same("income", hotel.book(HotelNights.INCOME), 20000);
        Check.same("taxes", hotel.book(HotelNights.TAXES), 304);
        Check.same("it counts no more", hotel.count(0, 20240226), 0);
        Check.same("the deposit is told on", hotel.stayAt(0, 5), 4000);
    }

    private static void promise15HeldStays() {
        HotelNights hotel = new HotelNights();
        hotel.ask(0, 20240301, 1, 1, 0, 20240227);
        hotel.ask(0, 20240228, 1, 1, 0, 20240228);
        hotel.ask(0, 20240226, 3, 1, 0, 20240226);
        hotel.passes(1);
        Check.same("held till today", hotel.stayAt(0, 0), HotelNights.HELD);
        Check.same("its first night is tomorrow", hotel.stayAt(1, 0), HotelNights.HELD);
        Check.same("its first night was yesterday", hotel.stayAt(2, 0), HotelNights.CANCELLED);
        hotel.passes(1);
        Check.same("held till yesterday", hotel.stayAt(0, 0), HotelNights.CANCELLED);
        Check.same("its first night is today", hotel.stayAt(1, 0), HotelNights.CANCELLED);
    }

    private static void promise15SentAway() {
        HotelNights hotel = new HotelNights();
        hotel.setExtra(1, 3);
        hotel.ask(1, 20240301, 1, 1, 0, 20240301);
        hotel.ask(1, 20240229, 2, 1, 0, 20240229);
        hotel.ask(1, 20240301, 3, 1, 0, 20240301);
        for (int stay = 0; stay < 3; stay++) {
            hotel.pay(stay);
        }
        int deposit = hotel.stayAt(2, 5);
        long guests = hotel.book(HotelNights.GUESTS);
        hotel.passes(3);
        Check.same("nobody on the night ahead", hotel.stayAt(1, 0), HotelNights.PAID);
        hotel.passes(1);
        Check.same("the one that was there ahead stays", hotel.stayAt(1, 0), HotelNights.PAID);
        Check.same("no night ahead of today", hotel.stayAt(0, 0), HotelNights.SENT);
        Check.same("no night ahead of today, greater number", hotel.stayAt(2, 0), HotelNights.SENT);
        Check.same("guests", hotel.book(HotelNights.GUESTS), guests + deposit + hotel.stayAt(0, 5));
        Check.same("deposits", hotel.book(HotelNights.DEPOSITS), hotel.stayAt(1, 5));
        Check.same("income", hotel.book(HotelNights.INCOME), 0);
        Check.noState(hotel, "no room", () -> hotel.roomOf(0));
        Check.same("no refund", hotel.refund(0), 0);
        Check.same("count of a later night", hotel.count(1, 20240302), 0);
    }

    private static void promise15SentAwayOneByOne() {
        HotelNights hotel = new HotelNights();
        hotel.setExtra(0, 2);
        hotel.ask(0, 20240228, 1, 1, 0, 20240228);
        hotel.ask(0, 20240228, 3, 1, 0, 20240228);
        hotel.ask(0, 20240227, 2, 1, 0, 20240227);
        hotel.ask(0, 20240228, 14, 1, 0, 20240228);
        hotel.ask(0, 20240228, 2, 1, 0, 20240228);
        hotel.setExtra(0, 0);
        for (int stay = 0; stay < 5; stay++) {
            hotel.pay(stay);
        }
        hotel.passes(2);
        int[] due = {HotelNights.PAID, HotelNights.PAID, HotelNights.PAID, HotelNights.SENT, HotelNights.SENT};
        for (int stay = 0; stay < 5; stay++) {
            Check.same("state of " + stay, hotel.stayAt(stay, 0), due[stay]);
        }
        Check.same("count is the rooms", hotel.count(0, 20240228), 3);
    }

    private static void promise15GuestsGetRoomsEachDay() {
        HotelNights hotel = new HotelNights();
        hotel.ask(1, 20240228, 1, 1, 0, 20240226);
        hotel.waitFor(1, 20240228, 1, 1, 0);
        hotel.waitFor(1, 20240227, 1, 1, 0);
        hotel.passes(1);
        Check.same("the hold ended, so both got a stay", hotel.waiting(), 0);
        Check.same("in order", hotel.stayAt(1, 2), 20240228);
        Check.same("also today", hotel.stayAt(2, 2), 20240227);
        Check.same("held till today", hotel.stayAt(2, 8), 20240227);
        Check.same("held", hotel.stayAt(2, 0), HotelNights.HELD);
        hotel.passes(1);
        Check.same("not paid", hotel.stayAt(2, 0), HotelNights.CANCELLED);
    }

    /** It takes more calls than are promised to come there, but those that tell the time should hold all the same. */
    private static void promise15TheEndOfTheYears() {
        HotelNights hotel = Hotels.atTheEndOfTheYears();
        Check.noArgument(hotel, "31 days", () -> hotel.passes(31));
        Check.noArgument(hotel, "two nights from the last one", () -> hotel.ask(0, 20991231, 2, 1, 0, 20991201));
        Check.noArgument(hotel, "a guest of two nights", () -> hotel.waitFor(0, 20991231, 2, 1, 0));
        Check.noArgument(hotel, "a group of two nights", () -> hotel.group(0, 1, 20991231, 2, 20991201));
        Check.same("the last night", hotel.ask(0, 20991230, 2, 1, 0, 20991230), 0);
        Check.noArgument(hotel, "longer", () -> hotel.longer(0, 1));
        Check.same("30 days", hotel.passes(30), 20991231);
        Check.noArgument(hotel, "one day", () -> hotel.passes(1));
    }

    private static void promise15DayByDay() {
        HotelNights hotel = new HotelNights();
        hotel.ask(1, 20240303, 1, 1, 0, 20240301);
        hotel.waitFor(1, 20240303, 1, 1, 0);
        hotel.passes(5);
        Check.same("the guest got a stay when the hold ended", hotel.stayAt(1, 0), HotelNights.HELD);
        hotel.passes(1);
        Check.same("and lost it on its first night", hotel.stayAt(1, 0), HotelNights.CANCELLED);
        Check.same("one change for many days", hotel.undo(), 3);
        Check.same("today", hotel.today(), 20240302);
    }
}
