import java.util.ArrayList;
import java.util.List;
import java.util.function.ToIntFunction;

/** Promise 19: undo, of each of the changes. */
final class UndoTest {
    private UndoTest() {
    }

    private static void promise19Undo() {
        HotelNights hotel = new HotelNights();
        String start = Look.at(hotel);
        Check.same("nothing to undo", hotel.undo(), HotelNights.NONE);
        Check.same("nothing is different", Look.at(hotel), start);
        List<String> seen = new ArrayList<>();
        for (int i = 0; i < 9; i++) {
            seen.add(Look.at(hotel));
            hotel.passes(1 + i);
        }
        for (int i = 8; i >= 3; i--) {
            Check.same("undo", hotel.undo(), i - 3);
            Check.same("as it was", Look.at(hotel), seen.get(i));
        }
        Check.same("no seventh one", hotel.undo(), HotelNights.NONE);
        Check.same("as it was", Look.at(hotel), seen.get(3));
        hotel.passes(1);
        hotel.passes(1);
        Check.same("behind other changes", hotel.undo(), 1);
        hotel.passes(2);
        Check.same("no redo, but a new change", hotel.undo(), 1);
        Check.same("the last one", hotel.undo(), 0);
        Check.same("as it was", Look.at(hotel), seen.get(3));
    }

    private static HotelNights busy() {
        HotelNights hotel = new HotelNights();
        hotel.setWeekend(10, 100);
        hotel.group(0, 2, 20240301, 2, 20240229);
        hotel.ask(1, 20240228, 3, 2, 1, 20240228);
        hotel.pay(2);
        hotel.ask(0, 20240226, 1, 1, 0, 20240226);
        hotel.pay(3);
        hotel.waitFor(1, 20240229, 1, 1, 0);
        hotel.setOdds(1, 500, 300);
        hotel.sell(3, 2);
        return hotel;
    }

    private static void promise19EachChange() {
        List<ToIntFunction<HotelNights>> changes = new ArrayList<>();
        changes.add(hotel -> hotel.addKind(2, 500));
        changes.add(hotel -> hotel.setExtra(1, 1));
        changes.add(hotel -> hotel.addSeason(301, 310, 20, 2));
        changes.add(hotel -> hotel.setWeekend(50, 7));
        changes.add(hotel -> hotel.ask(0, 20240301, 1, 1, 0, 20240301));
        changes.add(hotel -> hotel.ask(1, 20240301, 1, 1, 0, 20240301));
        changes.add(hotel -> hotel.group(0, 1, 20240301, 2, 20240229));
        changes.add(hotel -> hotel.group(0, 2, 20240301, 2, 20240229));
        changes.add(hotel -> hotel.letGo(0));
        changes.add(hotel -> hotel.waitFor(0, 20240301, 1, 1, 0));
        changes.add(hotel -> hotel.pay(0));
        changes.add(hotel -> hotel.cancel(2));
        changes.add(hotel -> hotel.longer(0, 2));
        changes.add(hotel -> hotel.shorter(2, 2));
        changes.add(hotel -> hotel.passes(1));
        changes.add(hotel -> hotel.passes(4));
        changes.add(hotel -> hotel.setOdds(1, 600, 1000));
        changes.add(hotel -> hotel.sell(1, 1));
        changes.add(hotel -> hotel.offer(400));
        for (int i = 0; i < changes.size(); i++) {
            Check.begin("promise 19, change " + i);
            HotelNights hotel = busy();
            String before = Look.at(hotel);
            changes.get(i).applyAsInt(hotel);
            Check.same("there is a change to see", before.equals(Look.at(hotel)) && i != 0, false);
            Check.same("undo", hotel.undo(), 5);
            Check.same("as it was", Look.at(hotel), before);
        }
    }

    private static void promise19RefusedCallsAreChanges() {
        HotelNights hotel = new HotelNights();
        hotel.ask(1, 20240301, 1, 1, 0, 20240301);
        hotel.ask(1, 20240301, 1, 1, 0, 20240301);
        hotel.closeNight(1, 20240302, true);
        hotel.longer(0, 1);
        Check.same("refused night of longer", hotel.refusedNight(), 20240302);
        Check.same("undo", hotel.undo(), 3);
        Check.same("refused night of ask", hotel.refusedNight(), 20240301);
        Check.same("undo", hotel.undo(), 2);
        Check.same("undo", hotel.undo(), 1);
        Check.same("no refused night", hotel.refusedNight(), 0);
        Check.same("the stay is still there", hotel.stayAt(0, 0), HotelNights.HELD);
    }

    private static void promise19ClosedNights() {
        HotelNights hotel = new HotelNights();
        hotel.closeNight(1, 20240301, true);
        hotel.closeNight(1, 20240301, false);
        hotel.undo();
        Check.same("closed again", hotel.ask(1, 20240301, 1, 1, 0, 20240301), HotelNights.NONE);
        hotel.undo();
        hotel.undo();
        Check.same("open again", hotel.ask(1, 20240301, 1, 1, 0, 20240301), 0);
    }

    private static void promise19CallsThatThrowAreNoChanges() {
        HotelNights hotel = new HotelNights();
        hotel.passes(1);
        Check.noArgument(hotel, "no day", () -> hotel.passes(0));
        Check.noIndex(hotel, "no stay", () -> hotel.pay(0));
        Check.noState(hotel, "no sale", () -> hotel.offer(0));
        Check.same("undo", hotel.undo(), 0);
        Check.same("today", hotel.today(), 20240226);
    }

    private static void promise19GuestsAndTheirStays() {
        HotelNights hotel = new HotelNights();
        hotel.waitFor(0, 20240227, 1, 2, 0);
        hotel.waitFor(0, 20240401, 1, 3, 0);
        hotel.passes(2);
        Check.same("the guest's stay is cancelled", hotel.stayAt(0, 0), HotelNights.CANCELLED);
        hotel.undo();
        Check.same("they wait again", hotel.waiting(), 2);
        Check.same("a stay in its place", hotel.ask(0, 20240301, 2, 1, 0, 20240301), 0);
        Check.same("is held", hotel.stayAt(0, 0), HotelNights.HELD);
        Check.same("with its own nights", hotel.stayAt(0, 3), 2);
        Check.same("and price", hotel.stayAt(0, 4), 20000);
        Check.same("both get a stay", hotel.setExtra(0, 1), 2);
        Check.same("in order", hotel.stayAt(1, 2), 20240227);
        Check.same("in order", hotel.stayAt(2, 2), 20240401);
    }

    private static void promise19PricesOfNights() {
        HotelNights hotel = new HotelNights();
        hotel.ask(0, 20240301, 3, 1, 0, 20240301);
        hotel.shorter(0, 2);
        hotel.setWeekend(100, 0);
        Check.same("Saturday and Sunday", hotel.longer(0, 2), 30000);
        hotel.undo();
        hotel.undo();
        hotel.undo();
        Check.same("the price as it was", hotel.shorter(0, 2), 20000);
    }
}
