/** Promises 7 to 14: stays that are asked for, groups, waiting guests, paying, cancelling, longer, shorter. */
final class StaysTest {
    private StaysTest() {
    }

    /** Sixty stays of one night each, three a night from 20240226 on. */
    private static HotelNights withSixtyStays() {
        HotelNights hotel = new HotelNights();
        for (int i = 0; i < 60; i++) {
            int night = hotel.addDays(20240226, i / 3);
            Check.same("stay", hotel.ask(0, night, 1, 1, 0, 20240226), i);
        }
        return hotel;
    }

    private static void promise07Ask() {
        HotelNights hotel = new HotelNights();
        Check.same("today, held till today", hotel.ask(0, 20240226, 14, 4, 4, 20240226), 0);
        Check.same("its price", hotel.stayAt(0, 4), 140000);
        Check.same("its kind", hotel.stayAt(0, 1), 0);
        Check.same("its nights", hotel.stayAt(0, 3), 14);
        Check.same("the last night of all", hotel.ask(1, 20250225, 1, 1, 0, 20250225), 1);
        Check.same("its kind", hotel.stayAt(1, 1), 1);
        Check.same("fourteen nights to the last one", hotel.ask(0, 20250212, 14, 1, 0, 20240226), 2);
        Check.same("price with a count", hotel.ask(0, 20240310, 2, 1, 0, 20240301), 3);
        Check.same("its price", hotel.stayAt(3, 4), 11000 + 10000);
        Check.same("price with two counts", hotel.ask(0, 20240309, 2, 1, 0, 20240301), 4);
        Check.same("its price", hotel.stayAt(4, 4), 11000 + 12000);
        Check.same("full on the second night", hotel.ask(0, 20240309, 3, 1, 0, 20240301), HotelNights.NONE);
        Check.same("refused night", hotel.refusedNight(), 20240310);
        Check.same("the number is not used", hotel.ask(0, 20240309, 1, 1, 0, 20240301), 5);
    }

    private static void promise07AskThrows() {
        HotelNights hotel = new HotelNights();
        hotel.passes(1);
        Check.noIndex(hotel, "kind 2", () -> hotel.ask(2, 20240301, 1, 1, 0, 20240301));
        Check.noIndex(hotel, "kind -1", () -> hotel.ask(-1, 0, 0, 0, -1, 0));
        Check.noArgument(hotel, "first no date", () -> hotel.ask(0, 20230229, 1, 1, 0, 20240301));
        Check.noArgument(hotel, "till no date", () -> hotel.ask(0, 20240301, 1, 1, 0, 20240230));
        Check.noArgument(hotel, "no night", () -> hotel.ask(0, 20240301, 0, 1, 0, 20240301));
        Check.noArgument(hotel, "15 nights", () -> hotel.ask(0, 20240301, 15, 1, 0, 20240301));
        Check.noArgument(hotel, "most nights", () -> hotel.ask(0, 20240301, Integer.MAX_VALUE, 1, 0, 20240301));
        Check.noArgument(hotel, "no adult", () -> hotel.ask(0, 20240301, 1, 0, 0, 20240301));
        Check.noArgument(hotel, "5 adults", () -> hotel.ask(0, 20240301, 1, 5, 0, 20240301));
        Check.noArgument(hotel, "-1 children", () -> hotel.ask(0, 20240301, 1, 1, -1, 20240301));
        Check.noArgument(hotel, "5 children", () -> hotel.ask(0, 20240301, 1, 1, 5, 20240301));
        Check.noArgument(hotel, "first yesterday", () -> hotel.ask(0, 20240226, 1, 1, 0, 20240226));
        Check.noArgument(hotel, "last night in 366 days", () -> hotel.ask(0, 20250227, 1, 1, 0, 20240301));
        Check.noArgument(hotel, "second night in 366 days", () -> hotel.ask(0, 20250226, 2, 1, 0, 20240301));
        Check.same("last night in 365 days", hotel.ask(0, 20250226, 1, 1, 0, 20240301), 0);
        Check.noArgument(hotel, "till yesterday", () -> hotel.ask(0, 20240301, 1, 1, 0, 20240226));
        Check.noArgument(hotel, "till behind first", () -> hotel.ask(0, 20240301, 2, 1, 0, 20240302));
        Check.same("till first", hotel.ask(0, 20240301, 2, 1, 0, 20240301), 1);
        Check.same("till today", hotel.ask(0, 20240301, 2, 1, 0, 20240227), 2);
    }

    private static void promise07SixtyStays() {
        HotelNights hotel = withSixtyStays();
        Check.noState(hotel, "one more", () -> hotel.ask(0, 20240401, 1, 1, 0, 20240226));
        Check.noState(hotel, "one that would be refused", () -> hotel.ask(0, 20240226, 1, 1, 0, 20240226));
        Check.noArgument(hotel, "argument ahead of state", () -> hotel.ask(0, 20240401, 0, 1, 0, 20240226));
        Check.noIndex(hotel, "index ahead of state", () -> hotel.ask(2, 20240401, 1, 1, 0, 20240226));
        Check.noState(hotel, "a group", () -> hotel.group(0, 1, 20240401, 1, 20240226));
        hotel.undo();
        Check.noState(hotel, "a group beyond sixty", () -> hotel.group(0, 2, 20240401, 1, 20240226));
        Check.same("a group up to sixty", hotel.group(0, 1, 20240401, 1, 20240226), 0);
    }

    private static void promise08Group() {
        HotelNights hotel = new HotelNights();
        hotel.setWeekend(0, 100);
        hotel.ask(0, 20240301, 1, 1, 0, 20240301);
        Check.same("group", hotel.group(0, 2, 20240301, 2, 20240228), 0);
        Check.same("state", hotel.stayAt(1, 0), HotelNights.HELD);
        Check.same("group of a stay", hotel.stayAt(1, 7), 0);
        Check.same("group of the other one", hotel.stayAt(2, 7), 0);
        Check.same("no group", hotel.stayAt(0, 7), HotelNights.NONE);
        Check.same("held till", hotel.stayAt(2, 8), 20240228);
        Check.same("price", hotel.stayAt(1, 4), 11000 + 10000);
        Check.same("price behind the one ahead", hotel.stayAt(2, 4), 12000 + 11000);
        Check.same("one adult", hotel.stayAt(2, 6), 200);
        Check.same("a group of one", hotel.group(1, 1, 20240226, 14, 20240226), 1);
        Check.same("its number", hotel.stayAt(3, 7), 1);
        Check.same("a group of six", hotel.addKind(6, 100), 2);
        Check.same("its number", hotel.group(2, 6, 20240226, 1, 20240226), 2);
        Check.same("the last one", hotel.stayAt(9, 7), 2);
        Check.same("the price of the last one", hotel.stayAt(9, 4), 130);
    }

    private static void promise08GroupIsRefusedWhole() {
        HotelNights hotel = new HotelNights();
        hotel.ask(0, 20240302, 1, 1, 0, 20240301);
        hotel.ask(0, 20240301, 1, 1, 0, 20240301);
        hotel.ask(0, 20240301, 1, 1, 0, 20240301);
        Check.same("refused", hotel.group(0, 3, 20240229, 3, 20240229), HotelNights.NONE);
        Check.same("refused night of the second one", hotel.refusedNight(), 20240301);
        Check.same("no stay is left", hotel.count(0, 20240229), 0);
        Check.noIndex(hotel, "no stay is left", () -> hotel.stayAt(3, 0));
        Check.noIndex(hotel, "no group is left", () -> hotel.letGo(0));
        Check.same("the next group", hotel.group(0, 1, 20240229, 3, 20240229), 0);
        Check.same("its stay", hotel.stayAt(3, 7), 0);
        Check.same("its nights", hotel.stayAt(3, 3), 3);
        Check.same("its price", hotel.stayAt(3, 4), 10000 + 12000 + 11000);
        hotel.undo();
        Check.same("the same group again", hotel.group(1, 1, 20240229, 3, 20240229), 0);
    }

    private static void promise08GroupThrows() {
        HotelNights hotel = new HotelNights();
        Check.noIndex(hotel, "kind 2", () -> hotel.group(2, 0, 20240301, 1, 20240301));
        Check.noArgument(hotel, "no stay", () -> hotel.group(0, 0, 20240301, 1, 20240301));
        Check.noArgument(hotel, "7 stays", () -> hotel.group(0, 7, 20240301, 1, 20240301));
        Check.noArgument(hotel, "first no date", () -> hotel.group(0, 1, 20240300, 1, 20240301));
        Check.noArgument(hotel, "till no date", () -> hotel.group(0, 1, 20240301, 1, 0));
        Check.noArgument(hotel, "no night", () -> hotel.group(0, 1, 20240301, 0, 20240301));
        Check.noArgument(hotel, "15 nights", () -> hotel.group(0, 1, 20240301, 15, 20240301));
        Check.noArgument(hotel, "first yesterday", () -> hotel.group(0, 1, 20240225, 1, 20240225));
        Check.noArgument(hotel, "too late", () -> hotel.group(0, 1, 20250226, 1, 20240301));
        Check.noArgument(hotel, "till yesterday", () -> hotel.group(0, 1, 20240301, 1, 20240225));
        Check.noArgument(hotel, "till behind first", () -> hotel.group(0, 1, 20240301, 1, 20240302));
        for (int i = 0; i < 10; i++) {
            Check.same("group", hotel.group(0, 1, hotel.addDays(20240301, i), 1, 20240301), i);
        }
        Check.noState(hotel, "an eleventh group", () -> hotel.group(0, 1, 20240401, 1, 20240301));
        Check.noArgument(hotel, "argument ahead of state", () -> hotel.group(0, 7, 20240401, 1, 20240301));
    }

    private static void promise09LetGo() {
        HotelNights hotel = new HotelNights();
        Check.noIndex(hotel, "no group yet", () -> hotel.letGo(0));
        hotel.group(0, 3, 20240301, 1, 20240301);
        hotel.group(1, 1, 20240301, 1, 20240301);
        hotel.ask(1, 20240302, 1, 1, 0, 20240301);
        hotel.pay(1);
        hotel.waitFor(0, 20240301, 1, 1, 0);
        hotel.waitFor(0, 20240301, 1, 1, 0);
        hotel.waitFor(0, 20240301, 1, 1, 0);
        Check.same("two are cancelled", hotel.letGo(0), 2);
        Check.same("first one", hotel.stayAt(0, 0), HotelNights.CANCELLED);
        Check.same("a paid one is kept", hotel.stayAt(1, 0), HotelNights.PAID);
        Check.same("last one", hotel.stayAt(2, 0), HotelNights.CANCELLED);
        Check.same("another group is kept", hotel.stayAt(3, 0), HotelNights.HELD);
        Check.same("one without a group is kept", hotel.stayAt(4, 0), HotelNights.HELD);
        Check.same("two guests got a stay", hotel.waiting(), 1);
        Check.same("price behind both cancellings", hotel.stayAt(5, 4), 11000);
        Check.same("none is left", hotel.letGo(0), 0);
        Check.noIndex(hotel, "group 2", () -> hotel.letGo(2));
        Check.noIndex(hotel, "group -1", () -> hotel.letGo(-1));
        hotel.group(0, 1, 20240226, 1, 20240226);
        Check.same("also on the first night", hotel.letGo(2), 1);
    }

    private static void promise10WaitFor() {
        HotelNights hotel = new HotelNights();
        Check.same("first guest", hotel.waitFor(0, 20240226, 14, 4, 4), 1);
        Check.same("latest guest", hotel.waitFor(1, 20250225, 1, 1, 0), 2);
        Check.same("waiting, though there are rooms", hotel.waiting(), 2);
        Check.noIndex(hotel, "kind 2", () -> hotel.waitFor(2, 0, 1, 1, 0));
        Check.noIndex(hotel, "kind -1", () -> hotel.waitFor(-1, 20240301, 1, 1, 0));
        Check.noArgument(hotel, "no date", () -> hotel.waitFor(0, 20240431, 1, 1, 0));
        Check.noArgument(hotel, "no night", () -> hotel.waitFor(0, 20240301, 0, 1, 0));
        Check.noArgument(hotel, "15 nights", () -> hotel.waitFor(0, 20240301, 15, 1, 0));
        Check.noArgument(hotel, "no adult", () -> hotel.waitFor(0, 20240301, 1, 0, 0));
        Check.noArgument(hotel, "5 adults", () -> hotel.waitFor(0, 20240301, 1, 5, 0));
        Check.noArgument(hotel, "-1 children", () -> hotel.waitFor(0, 20240301, 1, 1, -1));
        Check.noArgument(hotel, "5 children", () -> hotel.waitFor(0, 20240301, 1, 1, 5));
        Check.noArgument(hotel, "yesterday", () -> hotel.waitFor(0, 20240225, 1, 1, 0));
        Check.noArgument(hotel, "too late", () -> hotel.waitFor(0, 20250225, 2, 1, 0));
        for (int i = 3; i <= 20; i++) {
            Check.same("guest", hotel.waitFor(0, 20240301, 1, 1, 0), i);
        }
        Check.noState(hotel, "guest 21", () -> hotel.waitFor(0, 20240301, 1, 1, 0));
        Check.noArgument(hotel, "argument ahead of state", () -> hotel.waitFor(0, 20240301, 1, 1, 5));
        hotel.setExtra(1, 1);
        Check.same("those that find no room wait on", hotel.waiting(), 16);
        Check.same("the first guest's stay", hotel.stayAt(0, 3), 14);
    }

    private static void promise10GuestsAreGoneThroughInOrder() {
        HotelNights hotel = new HotelNights();
        hotel.addSeason(310, 310, 0, 2);
        hotel.ask(1, 20240301, 5, 1, 0, 20240301);
        hotel.waitFor(1, 20240305, 2, 1, 0);
        hotel.waitFor(1, 20240301, 5, 2, 0);
        hotel.waitFor(1, 20240310, 1, 1, 0);
        hotel.waitFor(1, 20240301, 3, 3, 0);
        hotel.waitFor(1, 20240227, 1, 4, 0);
        hotel.ask(1, 20240227, 1, 1, 0, 20240227);
        hotel.pay(1);
        hotel.cancel(0);
        Check.same("waiting", hotel.waiting(), 3);
        Check.same("the first guest", hotel.stayAt(2, 2), 20240305);
        Check.same("the fourth guest, as the second finds no room", hotel.stayAt(3, 3), 3);
        Check.same("the refused night is not told for guests", hotel.refusedNight(), 0);
        hotel.passes(2);
        Check.same("the one whose night is ahead of today went away", hotel.waiting(), 2);
        hotel.cancel(2);
        Check.same("still refused by a season and a stay", hotel.waiting(), 2);
    }

    private static void promise10GuestsThatMoveUp() {
        HotelNights hotel = new HotelNights();
        hotel.setWeekend(0, 100);
        hotel.ask(1, 20240303, 1, 1, 0, 20240301);
        hotel.waitFor(0, 20240301, 1, 1, 0);
        hotel.waitFor(1, 20240302, 2, 2, 0);
        hotel.waitFor(1, 20240303, 1, 3, 1);
        Check.same("one gets a stay", hotel.setExtra(0, 1), 1);
        hotel.undo();
        Check.same("and again", hotel.setExtra(0, 2), 1);
        Check.same("the first one", hotel.stayAt(1, 1), 0);
        Check.same("the others get one", hotel.setExtra(1, 3), 2);
        int[][] due = {{20240302, 2, 400}, {20240303, 1, 350}};
        for (int i = 0; i < 2; i++) {
            Check.same("kind", hotel.stayAt(2 + i, 1), 1);
            Check.same("first night", hotel.stayAt(2 + i, 2), due[i][0]);
            Check.same("nights", hotel.stayAt(2 + i, 3), due[i][1]);
            Check.same("tax of all persons", hotel.stayAt(2 + i, 6), due[i][2]);
        }
    }

    private static void promise10NoStayBeyondSixty() {
        HotelNights hotel = withSixtyStays();
        hotel.waitFor(0, 20240401, 1, 1, 0);
        hotel.waitFor(0, 20240226, 1, 1, 0);
        Check.same("no stay", hotel.setExtra(0, 1), 0);
        Check.same("waiting", hotel.waiting(), 2);
        hotel.passes(1);
        Check.same("one went away", hotel.waiting(), 1);
    }

    private static void promise11Pay() {
        HotelNights hotel = new HotelNights();
        hotel.addKind(1, 102);
        hotel.ask(2, 20240301, 1, 1, 0, 20240301);
        Check.same("20.4", hotel.pay(0), 20);
        Check.same("deposit", hotel.stayAt(0, 5), 20);
        Check.same("state", hotel.stayAt(0, 0), HotelNights.PAID);
        Check.same("guests", hotel.book(HotelNights.GUESTS), -20);
        Check.same("deposits", hotel.book(HotelNights.DEPOSITS), 20);
        Check.noState(hotel, "paid", () -> hotel.pay(0));
        Check.noIndex(hotel, "no such stay", () -> hotel.pay(1));
        Check.noIndex(hotel, "stay -1", () -> hotel.pay(-1));
        hotel.longer(0, 13);
        Check.same("the deposit stays as it is", hotel.stayAt(0, 5), 20);
        hotel.cancel(0);
        Check.noState(hotel, "cancelled", () -> hotel.pay(0));
        HotelNights other = new HotelNights();
        other.addKind(1, 103);
        other.ask(2, 20240226, 1, 1, 0, 20240226);
        Check.same("20.6, on the first night", other.pay(0), 21);
    }

    private static void promise12Cancel() {
        HotelNights hotel = new HotelNights();
        hotel.ask(0, 20240227, 1, 1, 0, 20240226);
        Check.same("held", hotel.cancel(0), 0);
        Check.same("state", hotel.stayAt(0, 0), HotelNights.CANCELLED);
        Check.same("price is told on", hotel.stayAt(0, 4), 10000);
        Check.noState(hotel, "cancelled", () -> hotel.cancel(0));
        Check.noIndex(hotel, "no such stay", () -> hotel.cancel(1));
        Check.noIndex(hotel, "stay -1", () -> hotel.cancel(-1));
        hotel.ask(0, 20240226, 2, 1, 0, 20240226);
        Check.noState(hotel, "today", () -> hotel.cancel(1));
        hotel.pay(1);
        Check.noState(hotel, "today, paid", () -> hotel.cancel(1));
        hotel.passes(1);
        Check.noState(hotel, "ahead of today", () -> hotel.cancel(1));
        hotel.passes(1);
        Check.noState(hotel, "over", () -> hotel.cancel(1));
    }

    private static void promise12Refunds() {
        HotelNights hotel = new HotelNights();
        hotel.addKind(6, 105);
        int[][] due = {{20240311, 21}, {20240310, 11}, {20240229, 11}, {20240228, 0}, {20240227, 0}};
        for (int i = 0; i < due.length; i++) {
            hotel.ask(2, due[i][0], 1, 1, 0, 20240226);
            Check.same("deposit", hotel.pay(i), 21);
            Check.same("refund as it is", hotel.refund(i), due[i][1]);
        }
        for (int i = 0; i < due.length; i++) {
            Check.same("refund of " + due[i][0], hotel.cancel(i), due[i][1]);
            Check.same("no refund any more", hotel.refund(i), 0);
            Check.same("the deposit is told on", hotel.stayAt(i, 5), 21);
        }
        Check.same("guests", hotel.book(HotelNights.GUESTS), -62);
        Check.same("deposits", hotel.book(HotelNights.DEPOSITS), 0);
        Check.same("income", hotel.book(HotelNights.INCOME), 62);
        Check.same("taxes", hotel.book(HotelNights.TAXES), 0);
    }

    private static void promise13Longer() {
        HotelNights hotel = new HotelNights();
        hotel.setWeekend(0, 10);
        hotel.ask(0, 20240301, 1, 2, 1, 20240301);
        hotel.ask(0, 20240303, 1, 1, 0, 20240301);
        Check.same("price with a count", hotel.longer(0, 2), 10000 + 11000);
        Check.same("price", hotel.stayAt(0, 4), 31000);
        Check.same("nights", hotel.stayAt(0, 3), 3);
        Check.same("tax", hotel.stayAt(0, 6), 3 * 25);
        hotel.ask(0, 20240305, 1, 1, 0, 20240301);
        hotel.group(0, 2, 20240305, 1, 20240301);
        Check.same("full", hotel.longer(0, 2), HotelNights.NONE);
        Check.same("refused night", hotel.refusedNight(), 20240305);
        Check.same("nothing was added", hotel.stayAt(0, 3), 3);
        hotel.pay(0);
        Check.same("a paid one", hotel.longer(0, 1), 10000);
        Check.same("eleven more on another one", hotel.ask(1, 20240301, 1, 1, 0, 20240301), 5);
        Check.same("thirteen more", hotel.longer(5, 13), 13 * 25000);
        hotel.addSeason(301, 331, 0, 7);
        Check.same("seasons do not refuse it", hotel.longer(1, 1), 11000);
    }

    private static void promise13LongerThrows() {
        HotelNights hotel = new HotelNights();
        hotel.ask(0, 20250220, 2, 1, 0, 20240301);
        hotel.ask(0, 20240301, 2, 1, 0, 20240301);
        Check.noIndex(hotel, "stay 2", () -> hotel.longer(2, 0));
        Check.noIndex(hotel, "stay -1", () -> hotel.longer(-1, 1));
        Check.noArgument(hotel, "0 nights", () -> hotel.longer(1, 0));
        Check.noArgument(hotel, "14 nights", () -> hotel.longer(1, 14));
        Check.noArgument(hotel, "-1 nights", () -> hotel.longer(1, -1));
        Check.noArgument(hotel, "most nights", () -> hotel.longer(1, Integer.MAX_VALUE));
        Check.noArgument(hotel, "15 in all", () -> hotel.longer(1, 13));
        Check.noArgument(hotel, "too late", () -> hotel.longer(0, 5));
        Check.same("just not too late", hotel.longer(0, 4), 40000);
        hotel.cancel(0);
        Check.noArgument(hotel, "argument ahead of state", () -> hotel.longer(0, 9));
        hotel.cancel(1);
        Check.noState(hotel, "cancelled", () -> hotel.longer(1, 12));
    }

    private static void promise14Shorter() {
        HotelNights hotel = new HotelNights();
        hotel.setWeekend(20, 10);
        hotel.ask(1, 20240229, 4, 2, 1, 20240228);
        hotel.waitFor(1, 20240302, 2, 1, 0);
        hotel.waitFor(1, 20240301, 1, 1, 0);
        Check.same("Saturday and Sunday", hotel.shorter(0, 2), 30000 + 25000);
        Check.same("price", hotel.stayAt(0, 4), 25000 + 30000);
        Check.same("nights", hotel.stayAt(0, 3), 2);
        Check.same("tax", hotel.stayAt(0, 6), 2 * 25);
        Check.same("a guest got a stay", hotel.waiting(), 1);
        Check.same("count", hotel.count(1, 20240302), 1);
        hotel.pay(0);
        hotel.passes(3);
        Check.same("one less, as it has begun", hotel.shorter(0, 1), 30000);
        Check.same("the other guest got a stay", hotel.waiting(), 0);
        Check.same("the deposit stays as it is", hotel.stayAt(0, 5), 11000);
        HotelNights today = new HotelNights();
        today.ask(0, 20240226, 2, 1, 0, 20240226);
        today.pay(0);
        today.passes(1);
        Check.same("today is left out", today.shorter(0, 1), 10000);
        Check.same("still alive", today.roomOf(0), 0);
        Check.same("it can be made longer again", today.longer(0, 2), 20000);
    }

    private static void promise14ShorterThrows() {
        HotelNights hotel = new HotelNights();
        hotel.ask(0, 20240226, 4, 1, 0, 20240226);
        hotel.pay(0);
        hotel.ask(0, 20240301, 14, 1, 0, 20240301);
        Check.noIndex(hotel, "stay 2", () -> hotel.shorter(2, 0));
        Check.noIndex(hotel, "stay -1", () -> hotel.shorter(-1, 1));
        Check.noArgument(hotel, "0 nights", () -> hotel.shorter(1, 0));
        Check.noArgument(hotel, "14 nights", () -> hotel.shorter(1, 14));
        Check.noArgument(hotel, "no night would stay", () -> hotel.shorter(0, 4));
        hotel.passes(2);
        Check.noArgument(hotel, "yesterday would be left out", () -> hotel.shorter(0, 3));
        Check.same("today is left out", hotel.shorter(0, 2), 20000);
        hotel.cancel(1);
        Check.noArgument(hotel, "argument ahead of state", () -> hotel.shorter(1, 14));
        Check.noState(hotel, "cancelled", () -> hotel.shorter(1, 13));
        hotel.passes(1);
        Check.same("over", hotel.stayAt(0, 0), HotelNights.OVER);
        Check.noArgument(hotel, "over, and its nights are ahead of today", () -> hotel.shorter(0, 1));
    }
}
