import java.util.ArrayList;
import java.util.List;
import java.util.function.Function;
import java.util.function.ToIntFunction;

/** Section 13: changes, exceptions, and undo. */
final class Section13ChangesTest {
    private Section13ChangesTest() {
    }

    private static void section13SixChangesAreUndoneAndNoSeventhOne() {
        HotelNights hotel = new HotelNights();
        List<String> seen = new ArrayList<>();
        for (int i = 0; i < 7; i++) {
            seen.add(Look.at(hotel));
            hotel.setWeekend(i, 0);
        }
        for (int i = 6; i >= 1; i--) {
            Check.same("undo", hotel.undo(), i - 1);
            Check.same("the latest one first", Look.at(hotel), seen.get(i));
        }
        Check.same("a seventh undo", hotel.undo(), HotelNights.NONE);
        Check.same("nothing is different", Look.at(hotel), seen.get(1));
    }

    private static void section13SixChangesInAll() {
        HotelNights hotel = new HotelNights();
        String start = Look.at(hotel);
        for (int i = 0; i < 6; i++) {
            hotel.passes(1);
        }
        for (int i = 5; i >= 0; i--) {
            Check.same("undo", hotel.undo(), i);
        }
        Check.same("as at first", Look.at(hotel), start);
        Check.same("no more", hotel.undo(), HotelNights.NONE);
    }

    private static void section13ThereIsNoRedo() {
        HotelNights hotel = new HotelNights();
        hotel.setExtra(0, 1);
        hotel.setExtra(0, 2);
        hotel.undo();
        hotel.passes(1);
        Check.same("two changes", hotel.undo(), 1);
        Check.same("the first one", hotel.undo(), 0);
        Check.same("no more", hotel.undo(), HotelNights.NONE);
    }

    private static void section13ChangesAndUndosManyTimes() {
        HotelNights hotel = new HotelNights();
        for (int changes = 1; changes <= 13; changes++) {
            int today = hotel.today();
            for (int i = 0; i < changes; i++) {
                hotel.passes(1);
            }
            for (int left = Math.min(6, changes) - 1; left >= 0; left--) {
                Check.same("undo", hotel.undo(), left);
            }
            Check.same("no more", hotel.undo(), HotelNights.NONE);
            Check.same("today", hotel.today(), hotel.addDays(today, Math.max(0, changes - 6)));
        }
    }

    private static void section13ARefusedStayIsAChange() {
        HotelNights hotel = new HotelNights();
        Hotels.ask(hotel, 1, 20240301, 1);
        Hotels.ask(hotel, 1, 20240301, 1);
        Check.same("refused night", hotel.refusedNight(), 20240301);
        Check.same("undo", hotel.undo(), 1);
        Check.same("no refused night", hotel.refusedNight(), 0);
        Check.same("the stay that was not refused", Look.stays(hotel), 1);
    }

    private static void section13ARefusedGroupIsAChange() {
        HotelNights hotel = new HotelNights();
        hotel.group(1, 2, 20240301, 1, 20240301);
        Check.same("refused night", hotel.refusedNight(), 20240301);
        Check.same("undo", hotel.undo(), 0);
        Check.same("no refused night", hotel.refusedNight(), 0);
    }

    private static void section13ARefusedLongerStayIsAChange() {
        HotelNights hotel = new HotelNights();
        hotel.closeNight(0, 20240302, true);
        Hotels.ask(hotel, 0, 20240301, 1);
        hotel.longer(0, 1);
        Check.same("refused night", hotel.refusedNight(), 20240302);
        Check.same("undo", hotel.undo(), 2);
        Check.same("no refused night", hotel.refusedNight(), 0);
    }

    /** The call is refused; the same call again then leaves all that can be seen as it is, and is undone for itself. */
    private static void isRefusedAgain(HotelNights hotel, ToIntFunction<HotelNights> call, int refusedNight) {
        long stays = Look.stays(hotel);
        Check.same("refused", call.applyAsInt(hotel), HotelNights.NONE);
        Check.same("refused night", hotel.refusedNight(), refusedNight);
        String before = Look.at(hotel);
        Check.same("refused again", call.applyAsInt(hotel), HotelNights.NONE);
        Check.same("all that can be seen", Look.at(hotel), before);
        Check.same("stays", Look.stays(hotel), stays);
        hotel.undo();
        Check.same("undone once", Look.at(hotel), before);
        hotel.undo();
        Check.same("undone twice", hotel.refusedNight(), 0);
    }

    private static void section13ARefusedAskLeavesTheStateButTheRefusedNight() {
        isRefusedAgain(Hotels.busy(), hotel -> hotel.ask(0, 20240304, 3, 4, 4, 20240301), 20240305);
    }

    private static void section13ARefusedGroupLeavesTheStateButTheRefusedNight() {
        isRefusedAgain(Hotels.busy(), hotel -> hotel.group(1, 3, 20240401, 2, 20240301), 20240401);
    }

    private static void section13ARefusedLongerLeavesTheStateButTheRefusedNight() {
        HotelNights hotel = Hotels.busy();
        hotel.closeNight(1, 20240314, true);
        isRefusedAgain(hotel, other -> other.longer(1, 2), 20240314);
    }

    private static void section13AnOfferThatIsNotTakenIsAChange() {
        HotelNights hotel = Hotels.withTwoSorts();
        hotel.sell(2, 1);
        hotel.offer(0);
        Check.same("undo", hotel.undo(), 3);
        Check.same("days", hotel.saleAt(0), 2);
        Check.same("best", hotel.saleAt(3), 0);
    }

    private static void section13ChangesThatChangeNothingAreChanges() {
        List<Function<HotelNights, ?>> changes = new ArrayList<>();
        changes.add(hotel -> hotel.closeNight(0, 20240301, false));
        changes.add(hotel -> hotel.setExtra(0, 0));
        changes.add(hotel -> hotel.setWeekend(0, 0));
        changes.add(hotel -> hotel.setOdds(0, 0, 0));
        HotelNights hotel = new HotelNights();
        for (Function<HotelNights, ?> change : changes) {
            change.apply(hotel);
        }
        for (int i = changes.size() - 1; i >= 0; i--) {
            Check.same("undo", hotel.undo(), i);
        }
    }

    private static void section13OtherCallsAreNoChanges() {
        HotelNights hotel = Hotels.busy();
        List<String> before = Edges.states(Hotels.busy());
        Look.at(hotel);
        hotel.dayOfWeek(20240226);
        hotel.addDays(20240226, 1);
        hotel.greatest(0, 20240226, 20240301);
        hotel.roomOf(0);
        hotel.limit(1, 1);
        hotel.moreToSell(0, 500, 500);
        hotel.share(0, 20240305);
        hotel.errors();
        Check.same("the states that undo brings back", Edges.states(hotel), before);
    }

    private static void section13UndoAfterACallThatThrows() {
        HotelNights hotel = new HotelNights();
        hotel.setWeekend(0, 7);
        Check.noArgument(hotel, "passes", () -> hotel.passes(0));
        Check.noIndex(hotel, "pay", () -> hotel.pay(0));
        Check.noState(hotel, "offer", () -> hotel.offer(0));
        Check.same("undo", hotel.undo(), 0);
        Check.same("the tax before", hotel.setWeekend(0, 0), 0);
    }

    private static void section13CallsThatThrowLeaveClosedNights() {
        HotelNights hotel = new HotelNights();
        Check.noIndex(hotel, "kind 2", () -> hotel.closeNight(2, 20240301, true));
        Check.noArgument(hotel, "no date", () -> hotel.closeNight(0, 20240230, true));
        Check.same("open", Hotels.ask(hotel, 0, 20240228, 14), 0);
        Check.same("open", Hotels.ask(hotel, 1, 20240228, 14), 1);
    }

    private static void section13CallsThatThrowLeaveTheExtra() {
        HotelNights hotel = new HotelNights();
        Check.noIndex(hotel, "kind 2", () -> hotel.setExtra(2, 3));
        Check.noArgument(hotel, "extra 4", () -> hotel.setExtra(1, 4));
        Check.same("one stay", hotel.group(1, 1, 20240301, 1, 20240301), 0);
        Check.same("no second one", Hotels.ask(hotel, 1, 20240301, 1), HotelNights.NONE);
    }

    private static void section13CallsThatThrowLeaveGuestsUnlookedAt() {
        HotelNights hotel = Hotels.busy();
        Check.noIndex(hotel, "cancel", () -> hotel.cancel(4));
        Check.noIndex(hotel, "letGo", () -> hotel.letGo(1));
        Check.noArgument(hotel, "shorter", () -> hotel.shorter(0, 2));
        Check.noArgument(hotel, "setExtra", () -> hotel.setExtra(0, 4));
        Check.noArgument(hotel, "passes", () -> hotel.passes(32));
        Check.same("waiting", hotel.waiting(), 1);
    }

    private static void section13NoSuchKindStaySeasonGroupSortOrBook() {
        Edges.noIndex(HotelNights::new, "kind", hotel -> hotel.needed(2));
        Edges.noIndex(HotelNights::new, "stay", hotel -> hotel.pay(0));
        Edges.noIndex(HotelNights::new, "group", hotel -> hotel.letGo(0));
        Edges.noIndex(HotelNights::new, "sort", hotel -> hotel.setOdds(4, 0, 0));
        Edges.noIndex(HotelNights::new, "book", hotel -> hotel.book(4));
    }

    private static void section13TheConstants() {
        int[] got = {HotelNights.NONE, HotelNights.HELD, HotelNights.PAID, HotelNights.CANCELLED, HotelNights.SENT,
            HotelNights.OVER, HotelNights.GUESTS, HotelNights.DEPOSITS, HotelNights.INCOME, HotelNights.TAXES};
        int[] due = {-1, 0, 1, 2, 3, 4, 0, 1, 2, 3};
        for (int i = 0; i < due.length; i++) {
            Check.same("constant " + i, got[i], due[i]);
        }
    }
}
