import java.util.ArrayList;
import java.util.List;
import java.util.function.ToIntFunction;

/** Section 9: waiting guests. */
final class Section09GuestsTest {
    private Section09GuestsTest() {
    }

    private static void section09TheTwentiethGuest() {
        HotelNights hotel = Hotels.withGuests(19);
        Check.same("guests", hotel.waitFor(0, 20240401, 1, 1, 0), 20);
        Check.same("opening lets in three", hotel.closeNight(0, 20240401, false), 3);
        Check.same("the others wait on", hotel.waiting(), 17);
    }

    private static void section09NoGuestBehindTheTwentieth() {
        Edges.noState(() -> Hotels.withGuests(20), "waitFor", hotel -> hotel.waitFor(1, 20240301, 1, 1, 0));
    }

    private static void section09AGuestThatWentMakesPlaceForAnotherOne() {
        HotelNights hotel = Hotels.withGuests(20);
        hotel.closeNight(0, 20240401, false);
        for (int i = 18; i <= 20; i++) {
            Check.same("guests", hotel.waitFor(0, 20240401, 1, 1, 0), i);
        }
    }

    private static void section09TheyAreGoneThroughInTheOrderInWhichTheyCame() {
        HotelNights hotel = new HotelNights();
        for (int i = 0; i < 4; i++) {
            hotel.waitFor(0, 20240301, 1, 1 + i, 0);
        }
        hotel.setWeekend(0, 1);
        Check.same("three get a stay", hotel.setExtra(0, 0), 3);
        for (int i = 0; i < 3; i++) {
            Check.same("adults of " + i, hotel.stayAt(i, 6), 1 + i);
        }
        Check.same("the last one", hotel.setExtra(0, 1), 1);
        Check.same("adults", hotel.stayAt(3, 6), 4);
    }

    private static void section09OneThatIsRefusedWaitsOnAndTheNextIsLookedAt() {
        HotelNights hotel = new HotelNights();
        hotel.closeNight(0, 20240302, true);
        hotel.waitFor(0, 20240301, 2, 1, 0);
        hotel.waitFor(0, 20240303, 1, 1, 0);
        hotel.waitFor(0, 20240302, 1, 1, 0);
        hotel.waitFor(0, 20240301, 1, 1, 0);
        Check.same("the second and the fourth one", hotel.setExtra(1, 1), 2);
        Check.same("the second one's", hotel.stayAt(0, 2), 20240303);
        Check.same("the fourth one's", hotel.stayAt(1, 2), 20240301);
        Check.same("the others", hotel.closeNight(0, 20240302, false), 2);
        Check.same("the first one's", hotel.stayAt(2, 3), 2);
        Check.same("the third one's", hotel.stayAt(3, 2), 20240302);
    }

    private static void section09OneWithFewerNightsThanTheLeastNumberIsRefused() {
        HotelNights hotel = new HotelNights();
        hotel.addSeason(301, 331, 0, 3);
        hotel.waitFor(0, 20240301, 2, 1, 0);
        hotel.waitFor(0, 20240301, 3, 1, 0);
        Check.same("the second one", hotel.setExtra(0, 0), 1);
        Check.same("nights", hotel.stayAt(0, 3), 3);
        Check.same("the first one waits on", hotel.waiting(), 1);
    }

    private static void section09TheRefusedNightIsNotThatOfAGuest() {
        HotelNights hotel = Hotels.withGuests(2);
        hotel.setExtra(0, 1);
        hotel.passes(1);
        Check.same("refused night", hotel.refusedNight(), 0);
    }

    private static void section09AFirstNightTodayIsNotTooLate() {
        HotelNights hotel = new HotelNights();
        hotel.waitFor(0, 20240226, 1, 1, 0);
        Check.same("it gets a stay", hotel.setExtra(0, 0), 1);
        Check.same("held till today", hotel.stayAt(0, 8), 20240226);
    }

    private static void section09TheSixtiethStayIsGiven() {
        HotelNights hotel = Hotels.withStays(59);
        hotel.waitFor(1, 20240301, 1, 1, 0);
        hotel.waitFor(1, 20240302, 1, 1, 0);
        Check.same("one gets it", hotel.setExtra(1, 0), 1);
        Check.same("its number", hotel.stayAt(59, 2), 20240301);
        Check.same("the other one waits on", hotel.waiting(), 1);
    }

    private static void section09NoStayIsGivenWhenThereAre60() {
        HotelNights hotel = Hotels.withStays(60);
        hotel.waitFor(1, 20240228, 1, 1, 0);
        Check.same("none gets one", hotel.setExtra(1, 0), 0);
        hotel.passes(2);
        Check.same("it waits up to its first night", hotel.waiting(), 1);
        hotel.passes(1);
        Check.same("and goes away behind it", hotel.waiting(), 0);
    }

    private static void section09AGuestGetsAStayAsIfItWasAskedFor() {
        HotelNights hotel = new HotelNights();
        Hotels.ask(hotel, 0, 20240302, 1);
        hotel.waitFor(0, 20240301, 3, 2, 1);
        hotel.setWeekend(50, 100);
        hotel.setExtra(0, 0);
        int[] due = {HotelNights.HELD, 0, 20240301, 3, 15000 + 16000 + 10000, 0, 3 * 250, HotelNights.NONE, 20240301};
        for (int what = 0; what < due.length; what++) {
            Check.same("what " + what, hotel.stayAt(1, what), due[what]);
        }
    }

    /** A guest waits for a night that can be had, as nobody looked at it since it came. */
    private static HotelNights withOneToBeLookedAt() {
        HotelNights hotel = new HotelNights();
        Hotels.ask(hotel, 0, 20240303, 2);
        hotel.ask(0, 20240310, 1, 1, 0, 20240310);
        hotel.group(0, 1, 20240305, 1, 20240305);
        hotel.closeNight(1, 20240401, true);
        hotel.sell(2, 1);
        hotel.waitFor(1, 20240320, 1, 1, 0);
        return hotel;
    }

    private static void lookedAtBehind(ToIntFunction<HotelNights> change) {
        HotelNights hotel = withOneToBeLookedAt();
        change.applyAsInt(hotel);
        Check.same("guests that wait", hotel.waiting(), 0);
        Check.same("its stay", hotel.stayAt(3, 2), 20240320);
    }

    private static void section09LookedAtBehindCancelling() {
        lookedAtBehind(hotel -> hotel.cancel(1));
    }

    private static void section09LookedAtBehindCancellingAPaidStay() {
        lookedAtBehind(hotel -> hotel.pay(1) + hotel.cancel(1));
    }

    private static void section09LookedAtBehindLettingGo() {
        lookedAtBehind(hotel -> hotel.letGo(0));
    }

    private static void section09LookedAtBehindAllThatLettingGoCancels() {
        HotelNights hotel = new HotelNights();
        hotel.group(0, 3, 20240304, 1, 20240304);
        hotel.waitFor(0, 20240304, 1, 1, 0);
        Check.same("cancelled", hotel.letGo(0), 3);
        Check.same("guests that wait", hotel.waiting(), 0);
        Check.same("the price without the group", hotel.stayAt(3, 4), 10000);
    }

    private static void section09LookedAtBehindMakingShorter() {
        lookedAtBehind(hotel -> hotel.shorter(0, 1));
    }

    private static void section09LookedAtBehindOpeningANight() {
        lookedAtBehind(hotel -> hotel.closeNight(1, 20240401, false));
    }

    private static void section09LookedAtBehindAChangeOfAnExtra() {
        lookedAtBehind(hotel -> hotel.setExtra(0, 1));
    }

    private static void section09LookedAtWhenADayPasses() {
        lookedAtBehind(hotel -> hotel.passes(1));
    }

    private static void section09LookedAtBehindNothingElse() {
        List<ToIntFunction<HotelNights>> changes = new ArrayList<>();
        changes.add(hotel -> hotel.addKind(1, 100));
        changes.add(hotel -> hotel.closeNight(1, 20240402, true));
        changes.add(hotel -> hotel.addSeason(301, 302, 0, 1));
        changes.add(hotel -> hotel.setWeekend(1, 1));
        changes.add(hotel -> hotel.ask(0, 20240301, 1, 1, 0, 20240301));
        changes.add(hotel -> hotel.ask(1, 20240401, 1, 1, 0, 20240301));
        changes.add(hotel -> hotel.group(0, 2, 20240301, 1, 20240301));
        changes.add(hotel -> hotel.group(1, 2, 20240301, 1, 20240301));
        changes.add(hotel -> hotel.pay(0));
        changes.add(hotel -> hotel.longer(0, 1));
        changes.add(hotel -> hotel.setOdds(0, 1, 1));
        changes.add(hotel -> hotel.sell(1, 1));
        changes.add(hotel -> hotel.offer(1));
        for (int i = 0; i < changes.size(); i++) {
            HotelNights hotel = withOneToBeLookedAt();
            changes.get(i).applyAsInt(hotel);
            Check.same("guests that wait behind change " + i, hotel.waiting(), 1);
        }
        HotelNights hotel = withOneToBeLookedAt();
        Check.same("another one comes", hotel.waitFor(1, 20240321, 1, 1, 0), 2);
        hotel.undo();
        Check.same("undo", hotel.waiting(), 1);
    }

    private static void section09WithoutGuestsNobodyGetsAStay() {
        HotelNights hotel = new HotelNights();
        Check.same("extra", hotel.setExtra(0, 3), 0);
        Check.same("opening", hotel.closeNight(0, 20240301, false), 0);
        Check.same("waiting", hotel.waiting(), 0);
    }
}
