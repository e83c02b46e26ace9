import java.util.ArrayList;
import java.util.List;
import java.util.function.Consumer;
import java.util.function.Function;
import java.util.function.Supplier;

/** Section 13: undo of each change, and of each part of the state. */
final class Section13UndoTest {
    private static final int NONE = HotelNights.NONE;

    private Section13UndoTest() {
    }

    /** The change is seen, one undo takes it back, and the same change then gives the same again. */
    private static void isUndone(Supplier<HotelNights> start, Consumer<HotelNights> change) {
        HotelNights hotel = start.get();
        String before = Look.at(hotel);
        change.accept(hotel);
        String behind = Look.at(hotel);
        Check.same("there is a change to see", before.equals(behind), false);
        int left = hotel.undo();
        Check.same("it can be undone", left >= 0 && left <= 5, true);
        Check.same("as it was", Look.at(hotel), before);
        change.accept(hotel);
        Check.same("the same again", Look.at(hotel), behind);
    }

    private static void section13UndoOfAddKind() {
        HotelNights hotel = Hotels.withSixRooms();
        Check.same("undo", hotel.undo(), 0);
        Check.same("kinds", hotel.kinds(), 2);
        Check.noIndex(hotel, "kind 2", () -> hotel.priceOf(2, 20240301));
    }

    private static void section13UndoOfAddKindLeavesNothingForTheNextOne() {
        HotelNights hotel = Hotels.withSixRooms();
        hotel.setExtra(2, 3);
        hotel.closeNight(2, 20240301, true);
        hotel.closeNight(2, 20991231, true);
        for (int i = 0; i < 4; i++) {
            hotel.undo();
        }
        hotel.addKind(1, 300);
        Check.same("price", hotel.priceOf(2, 20240301), 300);
        Check.same("no night is closed", Hotels.ask(hotel, 2, 20240301, 1), 0);
        Check.same("one room and no extra", Hotels.ask(hotel, 2, 20240301, 1), NONE);
    }

    private static void section13UndoOfClosingANight() {
        HotelNights hotel = new HotelNights();
        hotel.closeNight(0, 20240301, true);
        hotel.undo();
        Check.same("open", Hotels.ask(hotel, 0, 20240301, 1), 0);
    }

    private static void section13UndoOfOpeningANight() {
        HotelNights hotel = new HotelNights();
        hotel.closeNight(0, 20240301, true);
        hotel.closeNight(0, 20240301, false);
        hotel.undo();
        Check.same("closed", Hotels.ask(hotel, 0, 20240301, 1), NONE);
    }

    private static void section13UndoOfOpeningThatLetGuestsIn() {
        isUndone(() -> Hotels.withGuests(5), hotel -> hotel.closeNight(0, 20240401, false));
    }

    private static void section13UndoOfSetExtra() {
        HotelNights hotel = new HotelNights();
        hotel.setExtra(1, 1);
        hotel.setExtra(1, 3);
        hotel.undo();
        Check.same("extra 1", hotel.group(1, 3, 20240301, 1, 20240301), NONE);
        Check.same("extra 1", hotel.group(1, 2, 20240301, 1, 20240301), 0);
    }

    private static void section13UndoOfAnExtraThatLetGuestsIn() {
        isUndone(Hotels::busy, hotel -> hotel.setExtra(0, 1));
    }

    private static void section13UndoOfAddSeason() {
        isUndone(Hotels::busy, hotel -> hotel.addSeason(229, 301, 50, 1));
    }

    private static void section13UndoOfAddSeasonLeavesNothingForTheNextOne() {
        HotelNights hotel = new HotelNights();
        hotel.addSeason(301, 331, 50, 7);
        hotel.undo();
        hotel.addSeason(401, 430, -50, 1);
        Check.same("March", hotel.priceOf(0, 20240301), 10000);
        Check.same("April", hotel.priceOf(0, 20240401), 5000);
        Check.same("one night", Hotels.ask(hotel, 0, 20240301, 1), 0);
    }

    private static void section13UndoOfTheLeastNumberOfASeason() {
        HotelNights hotel = new HotelNights();
        hotel.addSeason(301, 331, 0, 2);
        hotel.addSeason(301, 331, 0, 7);
        hotel.undo();
        Check.same("1 night", Hotels.ask(hotel, 0, 20240301, 1), NONE);
        Check.same("2 nights", Hotels.ask(hotel, 0, 20240301, 2), 0);
    }

    private static void section13UndoOfThePercentageOfTheWeekend() {
        isUndone(Hotels::busy, hotel -> hotel.setWeekend(30, 0));
    }

    private static void section13UndoOfTheTax() {
        HotelNights hotel = new HotelNights();
        hotel.setWeekend(0, 400);
        hotel.setWeekend(0, 500);
        hotel.undo();
        Check.same("the tax before", hotel.setWeekend(0, 600), 400);
    }

    private static void section13UndoOfAsk() {
        isUndone(Hotels::busy, hotel -> hotel.ask(1, 20240301, 2, 4, 4, 20240228));
    }

    private static void section13UndoOfAskThatIsRefused() {
        isUndone(Hotels::busy, hotel -> hotel.ask(0, 20240304, 3, 1, 0, 20240228));
    }

    private static void section13UndoOfAskLeavesNothingForTheNextOne() {
        HotelNights hotel = new HotelNights();
        hotel.setWeekend(0, 10);
        hotel.ask(1, 20240304, 14, 4, 4, 20240228);
        hotel.undo();
        hotel.group(0, 1, 20240305, 1, 20240229);
        int[] due = {HotelNights.HELD, 0, 20240305, 1, 10000, 0, 10, 0, 20240229};
        for (int what = 0; what <= 8; what++) {
            Check.same("what " + what, hotel.stayAt(0, what), due[what]);
        }
    }

    private static void section13UndoOfGroup() {
        isUndone(Hotels::busy, hotel -> hotel.group(0, 3, 20240301, 2, 20240229));
    }

    private static void section13UndoOfGroupThatIsRefused() {
        isUndone(Hotels::busy, hotel -> hotel.group(0, 4, 20240301, 2, 20240229));
    }

    private static void section13UndoOfGroupGivesItsNumberAgain() {
        HotelNights hotel = Hotels.busy();
        Check.same("group", hotel.group(0, 1, 20240301, 1, 20240229), 1);
        hotel.undo();
        Check.noIndex(hotel, "group 1", () -> hotel.letGo(1));
        Check.same("group again", hotel.group(0, 1, 20240301, 1, 20240229), 1);
    }

    private static void section13UndoOfLetGo() {
        isUndone(Hotels::busy, hotel -> hotel.letGo(0));
    }

    private static void section13UndoOfWaitFor() {
        isUndone(Hotels::busy, hotel -> hotel.waitFor(0, 20240301, 2, 1, 0));
    }

    private static void section13UndoOfPay() {
        isUndone(Hotels::busy, hotel -> hotel.pay(1));
    }

    private static void section13UndoOfCancellingAHeldStay() {
        isUndone(Hotels::busy, hotel -> hotel.cancel(1));
    }

    private static void section13UndoOfCancellingAPaidStay() {
        isUndone(Hotels::busy, hotel -> hotel.cancel(0));
    }

    private static void section13UndoOfLonger() {
        isUndone(Hotels::busy, hotel -> hotel.longer(0, 12));
    }

    private static void section13UndoOfLongerThatIsRefused() {
        HotelNights hotel = Hotels.busy();
        hotel.closeNight(0, 20240307, true);
        isUndone(() -> hotel, other -> other.longer(0, 1));
    }

    private static void section13UndoOfShorter() {
        isUndone(Hotels::busy, hotel -> hotel.shorter(1, 2));
    }

    private static void section13UndoOfThePricesOfNights() {
        HotelNights hotel = new HotelNights();
        hotel.ask(0, 20240301, 3, 1, 0, 20240301);
        hotel.setWeekend(100, 0);
        hotel.shorter(0, 2);
        Check.same("new prices", hotel.longer(0, 2), 30000);
        hotel.undo();
        hotel.undo();
        Check.same("the old prices", hotel.shorter(0, 2), 20000);
    }

    private static void section13UndoOfPasses() {
        for (int days = 1; days <= 31; days++) {
            int number = days;
            isUndone(Hotels::busy, hotel -> hotel.passes(number));
        }
    }

    private static void section13UndoOfADayThatEndsAStay() {
        HotelNights hotel = new HotelNights();
        hotel.setWeekend(0, 100);
        Hotels.paid(hotel, 0, 20240226, 1);
        isUndone(() -> hotel, other -> other.passes(1));
        hotel.undo();
        Check.same("state", hotel.stayAt(0, 0), HotelNights.PAID);
        Check.same("deposits", hotel.book(HotelNights.DEPOSITS), 2000);
        Check.same("taxes", hotel.book(HotelNights.TAXES), 0);
    }

    private static void section13UndoOfADayThatSendsAStayAway() {
        HotelNights hotel = new HotelNights();
        hotel.setExtra(1, 1);
        Hotels.paid(hotel, 1, 20240227, 1);
        Hotels.paid(hotel, 1, 20240227, 1);
        isUndone(() -> hotel, other -> other.passes(1));
        Check.same("state", hotel.stayAt(1, 0), HotelNights.SENT);
        hotel.undo();
        Check.same("state", hotel.stayAt(1, 0), HotelNights.PAID);
    }

    private static void section13UndoOfDaysInWhichAGuestGotAndLostAStay() {
        HotelNights hotel = new HotelNights();
        hotel.waitFor(0, 20240227, 1, 2, 0);
        hotel.waitFor(0, 20240401, 1, 1, 0);
        hotel.passes(3);
        Check.same("lost", hotel.stayAt(0, 0), HotelNights.CANCELLED);
        hotel.undo();
        Check.same("guests", hotel.waiting(), 2);
        Check.same("stays", Look.stays(hotel), 0);
        Hotels.ask(hotel, 1, 20240301, 1);
        Check.same("the next stay is held", hotel.stayAt(0, 0), HotelNights.HELD);
        Check.same("its price", hotel.stayAt(0, 4), 25000);
    }

    private static void section13UndoBringsBackGuestsInTheirOrder() {
        HotelNights hotel = new HotelNights();
        hotel.setWeekend(0, 100);
        for (int i = 0; i < 3; i++) {
            hotel.waitFor(i == 0 ? 1 : 0, 20240301 + i, 1 + i, 1 + i, i);
        }
        hotel.setExtra(0, 1);
        hotel.undo();
        Check.same("guests", hotel.waiting(), 3);
        Check.same("all get a stay", hotel.setExtra(0, 1), 3);
        for (int i = 0; i < 3; i++) {
            Check.same("kind", hotel.stayAt(i, 1), i == 0 ? 1 : 0);
            Check.same("first night", hotel.stayAt(i, 2), 20240301 + i);
            Check.same("nights", hotel.stayAt(i, 3), 1 + i);
            Check.same("tax", hotel.stayAt(i, 6), (1 + i) * (100 * (1 + i) + 50 * i));
        }
    }

    private static void section13UndoBringsBackGuestsThatMovedUp() {
        HotelNights hotel = new HotelNights();
        hotel.closeNight(0, 20240302, true);
        hotel.waitFor(0, 20240301, 1, 1, 0);
        hotel.waitFor(0, 20240302, 2, 1, 0);
        hotel.waitFor(0, 20240302, 3, 1, 0);
        Check.same("the first one", hotel.setExtra(1, 1), 1);
        hotel.undo();
        Check.same("all three", hotel.closeNight(0, 20240302, false), 3);
        for (int i = 0; i < 3; i++) {
            Check.same("nights", hotel.stayAt(i, 3), 1 + i);
        }
    }

    private static void section13UndoOfSetOdds() {
        isUndone(Hotels::busy, hotel -> hotel.setOdds(0, 10000, 600));
        isUndone(Hotels::busy, hotel -> hotel.setOdds(0, 9000, 500));
        isUndone(Hotels::busy, hotel -> hotel.setOdds(3, 9000, 500));
    }

    private static void section13UndoOfTheFirstSale() {
        HotelNights hotel = new HotelNights();
        hotel.sell(1, 1);
        hotel.undo();
        Check.noState(hotel, "saleAt", () -> hotel.saleAt(0));
        Check.noState(hotel, "offer", () -> hotel.offer(0));
    }

    private static void section13UndoOfAnotherSale() {
        HotelNights hotel = new HotelNights();
        hotel.sell(3, 1);
        hotel.offer(4);
        isUndone(() -> hotel, other -> other.sell(4, 4));
        hotel.undo();
        hotel.offer(9);
        Check.same("best of one room", hotel.saleAt(3), 9);
        hotel.offer(9);
        Check.noState(hotel, "no day is left", () -> hotel.offer(9));
    }

    private static void section13UndoOfOffer() {
        isUndone(Hotels::busy, hotel -> hotel.offer(10000));
        isUndone(Hotels::busy, hotel -> hotel.offer(0));
    }

    private static void section13UndoOfTheOffersThatCame() {
        HotelNights hotel = new HotelNights();
        hotel.sell(4, 2);
        hotel.offer(5);
        hotel.offer(9);
        hotel.undo();
        hotel.offer(7);
        Check.same("5 and 7", hotel.saleAt(3), 12);
    }

    private static void section13EachListedCallIsAChange() {
        List<Function<HotelNights, ?>> changes = new ArrayList<>();
        changes.add(hotel -> hotel.addKind(1, 100));
        changes.add(hotel -> hotel.closeNight(0, 20240301, true));
        changes.add(hotel -> hotel.closeNight(0, 20240301, false));
        changes.add(hotel -> hotel.setExtra(0, 0));
        changes.add(hotel -> hotel.addSeason(301, 301, 0, 1));
        changes.add(hotel -> hotel.setWeekend(0, 0));
        changes.add(hotel -> hotel.ask(0, 20240301, 1, 1, 0, 20240226));
        changes.add(hotel -> hotel.group(0, 1, 20240301, 1, 20240226));
        changes.add(hotel -> hotel.letGo(0));
        changes.add(hotel -> hotel.waitFor(0, 20240301, 1, 1, 0));
        changes.add(hotel -> hotel.pay(1));
        changes.add(hotel -> hotel.cancel(1));
        changes.add(hotel -> hotel.longer(1, 1));
        changes.add(hotel -> hotel.shorter(1, 1));
        changes.add(hotel -> hotel.passes(1));
        changes.add(hotel -> hotel.setOdds(0, 0, 0));
        changes.add(hotel -> hotel.sell(1, 1));
        changes.add(hotel -> hotel.offer(0));
        for (int i = 0; i < changes.size(); i++) {
            HotelNights hotel = Hotels.busy();
            String before = Look.at(hotel);
            changes.get(i).apply(hotel);
            Check.same("change " + i + ", undo", hotel.undo(), 5);
            Check.same("change " + i + ", as it was", Look.at(hotel), before);
        }
    }

    private static void section13SixChangesOfManyUpToTheLastCall() {
        HotelNights hotel = new HotelNights();
        for (int i = 1; i <= 505; i++) {
            hotel.setWeekend(i % 101, i);
        }
        for (int left = 5; left >= 0; left--) {
            Check.same("undo", hotel.undo(), left);
        }
        Check.same("the 512th call: the tax of the 499th change", hotel.setWeekend(0, 0), 499);
    }
}
