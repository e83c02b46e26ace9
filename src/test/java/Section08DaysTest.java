/** Section 8: what happens when a day passes. */
final class Section08DaysTest {
    private static final int HELD = HotelNights.HELD, PAID = HotelNights.PAID, CANCELLED = HotelNights.CANCELLED;
    private static final int SENT = HotelNights.SENT, OVER = HotelNights.OVER;

    private Section08DaysTest() {
    }

    private static void statesAre(HotelNights hotel, int... due) {
        for (int stay = 0; stay < due.length; stay++) {
            Check.same("state of " + stay, hotel.stayAt(stay, 0), due[stay]);
        }
    }

    private static void section08ATodayBecomesTheNextDate() {
        HotelNights hotel = new HotelNights();
        int[] due = {20240227, 20240228, 20240229, 20240301, 20240302};
        for (int today : due) {
            Check.same("passes", hotel.passes(1), today);
            Check.same("today", hotel.today(), today);
        }
    }

    private static void section08AOverTheEndOfTheYear() {
        HotelNights hotel = new HotelNights();
        for (int i = 0; i < 9; i++) {
            hotel.passes(31);
        }
        Check.same("nine times 31 days", hotel.today(), 20241201);
        Check.same("to the last day", hotel.passes(30), 20241231);
        Check.same("to the first one", hotel.passes(1), 20250101);
    }

    private static void section08AOverFebruaryInAnotherYear() {
        HotelNights hotel = new HotelNights();
        for (int i = 0; i < 12; i++) {
            hotel.passes(30);
        }
        Check.same("360 days", hotel.today(), 20250220);
        Check.same("to the last day", hotel.passes(8), 20250228);
        Check.same("to the first one", hotel.passes(1), 20250301);
    }

    private static void section08BALastNightAheadOfTodayIsOver() {
        HotelNights hotel = new HotelNights();
        Hotels.paid(hotel, 0, 20240226, 1);
        hotel.passes(1);
        statesAre(hotel, OVER);
    }

    private static void section08BALastNightTodayIsNotOver() {
        HotelNights hotel = new HotelNights();
        Hotels.paid(hotel, 0, 20240226, 2);
        hotel.passes(1);
        statesAre(hotel, PAID);
    }

    private static void section08BAHeldStayIsNotOver() {
        HotelNights hotel = new HotelNights();
        Hotels.ask(hotel, 0, 20240226, 1);
        hotel.passes(1);
        statesAre(hotel, CANCELLED);
    }

    private static void section08BOneThatWasMadeShorterIsOverBefore() {
        HotelNights hotel = new HotelNights();
        Hotels.paid(hotel, 0, 20240226, 3);
        hotel.shorter(0, 2);
        hotel.passes(1);
        statesAre(hotel, OVER);
    }

    private static void section08CHeldTillADateAheadOfToday() {
        HotelNights hotel = new HotelNights();
        hotel.ask(0, 20240310, 1, 1, 0, 20240226);
        hotel.passes(1);
        statesAre(hotel, CANCELLED);
    }

    private static void section08CHeldTillToday() {
        HotelNights hotel = new HotelNights();
        hotel.ask(0, 20240310, 1, 1, 0, 20240227);
        hotel.passes(1);
        statesAre(hotel, HELD);
    }

    private static void section08CAFirstNightToday() {
        HotelNights hotel = new HotelNights();
        hotel.ask(0, 20240227, 1, 1, 0, 20240227);
        hotel.passes(1);
        statesAre(hotel, CANCELLED);
    }

    private static void section08CAFirstNightAheadOfToday() {
        HotelNights hotel = new HotelNights();
        hotel.ask(0, 20240226, 5, 1, 0, 20240226);
        statesAre(hotel, HELD);
        hotel.passes(1);
        statesAre(hotel, CANCELLED);
    }

    private static void section08CAFirstNightTomorrow() {
        HotelNights hotel = new HotelNights();
        hotel.ask(0, 20240228, 1, 1, 0, 20240228);
        hotel.passes(1);
        statesAre(hotel, HELD);
    }

    private static void section08CAPaidStayIsNotCancelled() {
        HotelNights hotel = new HotelNights();
        Hotels.paid(hotel, 0, 20240227, 1);
        hotel.passes(1);
        statesAre(hotel, PAID);
    }

    private static void section08CGoesAheadOfD() {
        HotelNights hotel = new HotelNights();
        hotel.setExtra(1, 1);
        hotel.ask(1, 20240227, 1, 1, 0, 20240227);
        Hotels.paid(hotel, 1, 20240227, 1);
        hotel.passes(1);
        statesAre(hotel, CANCELLED, PAID);
    }

    private static void section08DACountOfTheRoomsSendsNobodyAway() {
        HotelNights hotel = new HotelNights();
        hotel.setExtra(0, 3);
        for (int i = 0; i < 3; i++) {
            Hotels.paid(hotel, 0, 20240227, 1);
        }
        hotel.passes(1);
        statesAre(hotel, PAID, PAID, PAID);
    }

    private static void section08DOneBeyondTheRooms() {
        HotelNights hotel = new HotelNights();
        hotel.setExtra(0, 3);
        for (int i = 0; i < 4; i++) {
            Hotels.paid(hotel, 0, 20240227, 1);
        }
        hotel.passes(1);
        statesAre(hotel, PAID, PAID, PAID, SENT);
    }

    private static void section08DThreeBeyondTheRooms() {
        HotelNights hotel = Hotels.withSixRooms();
        hotel.setExtra(2, 3);
        for (int i = 0; i < 9; i++) {
            Hotels.paid(hotel, 2, 20240227, 1);
        }
        hotel.passes(1);
        statesAre(hotel, PAID, PAID, PAID, PAID, PAID, PAID, SENT, SENT, SENT);
        Check.same("count", hotel.count(2, 20240227), 6);
    }

    private static void section08DTheFewestNightsAheadOfToday() {
        HotelNights hotel = new HotelNights();
        hotel.setExtra(1, 1);
        Hotels.paid(hotel, 1, 20240228, 3);
        Hotels.paid(hotel, 1, 20240227, 3);
        hotel.passes(1);
        statesAre(hotel, PAID, PAID);
        hotel.passes(1);
        statesAre(hotel, SENT, PAID);
    }

    private static void section08DNightsBehindTodayDoNotMatter() {
        HotelNights hotel = new HotelNights();
        hotel.setExtra(1, 1);
        Hotels.paid(hotel, 1, 20240227, 14);
        Hotels.paid(hotel, 1, 20240227, 1);
        hotel.passes(1);
        statesAre(hotel, PAID, SENT);
    }

    private static void section08DOfSeveralTheGreatestNumber() {
        HotelNights hotel = new HotelNights();
        hotel.setExtra(1, 2);
        for (int i = 0; i < 3; i++) {
            Hotels.paid(hotel, 1, 20240227, 3 - i);
        }
        hotel.passes(1);
        statesAre(hotel, PAID, SENT, SENT);
    }

    private static void section08DTheExtraDoesNotMatter() {
        HotelNights hotel = new HotelNights();
        hotel.setExtra(1, 1);
        Hotels.paid(hotel, 1, 20240227, 1);
        Hotels.paid(hotel, 1, 20240227, 1);
        hotel.setExtra(1, 3);
        hotel.passes(1);
        statesAre(hotel, PAID, SENT);
    }

    private static void section08DAnotherNightBeyondTheRoomsDoesNotMatter() {
        HotelNights hotel = new HotelNights();
        hotel.setExtra(1, 1);
        Hotels.paid(hotel, 1, 20240228, 1);
        Hotels.paid(hotel, 1, 20240228, 1);
        hotel.passes(1);
        statesAre(hotel, PAID, PAID);
    }

    private static void section08DForEachKind() {
        HotelNights hotel = new HotelNights();
        hotel.addKind(1, 100);
        for (int kind = 0; kind < 3; kind++) {
            hotel.setExtra(kind, 1);
        }
        for (int i = 0; i < 4; i++) {
            Hotels.paid(hotel, 0, 20240227, 1);
        }
        Hotels.paid(hotel, 1, 20240227, 1);
        Hotels.paid(hotel, 1, 20240227, 1);
        Hotels.paid(hotel, 2, 20240227, 1);
        Hotels.paid(hotel, 2, 20240227, 1);
        hotel.passes(1);
        statesAre(hotel, PAID, PAID, PAID, SENT, PAID, SENT, PAID, SENT);
    }

    private static void section08DWithSixtyStays() {
        HotelNights hotel = Hotels.withStays(58);
        hotel.setExtra(1, 1);
        Hotels.paid(hotel, 1, 20240227, 1);
        Hotels.paid(hotel, 1, 20240227, 1);
        hotel.passes(1);
        Check.same("the fifty-ninth", hotel.stayAt(58, 0), PAID);
        Check.same("the sixtieth", hotel.stayAt(59, 0), SENT);
        Check.same("count", hotel.count(0, 20240401), 3);
    }

    private static void section08DAStayThatWasUndoneIsNotSentAway() {
        HotelNights hotel = new HotelNights();
        hotel.setExtra(1, 1);
        Hotels.paid(hotel, 1, 20240227, 1);
        Hotels.paid(hotel, 1, 20240227, 1);
        Hotels.ask(hotel, 1, 20240228, 1);
        hotel.undo();
        hotel.passes(1);
        statesAre(hotel, PAID, SENT);
    }

    private static void section08DNobodyIsSentAwayOnTheNightItself() {
        HotelNights hotel = new HotelNights();
        hotel.setExtra(1, 1);
        Hotels.paid(hotel, 1, 20240226, 2);
        Hotels.paid(hotel, 1, 20240226, 1);
        statesAre(hotel, PAID, PAID);
        hotel.passes(1);
        statesAre(hotel, PAID, OVER);
    }

    private static void section08EAGuestWhoseFirstNightIsAheadOfTodayGoesAway() {
        HotelNights hotel = new HotelNights();
        hotel.closeNight(0, 20240227, true);
        hotel.waitFor(0, 20240226, 2, 1, 0);
        hotel.waitFor(0, 20240227, 1, 1, 0);
        hotel.passes(1);
        Check.same("the one of today waits on", hotel.waiting(), 1);
        hotel.passes(1);
        Check.same("and goes away a day on", hotel.waiting(), 0);
        Check.same("no stay was made", Look.stays(hotel), 0);
    }

    private static void section08EGuestsGetWhatCAndDLeave() {
        HotelNights hotel = new HotelNights();
        hotel.setExtra(1, 1);
        Hotels.paid(hotel, 1, 20240227, 1);
        Hotels.paid(hotel, 1, 20240227, 2);
        hotel.ask(1, 20240228, 2, 1, 0, 20240226);
        hotel.waitFor(1, 20240228, 1, 1, 0);
        hotel.waitFor(1, 20240229, 1, 1, 0);
        hotel.waitFor(1, 20240228, 2, 1, 0);
        hotel.passes(1);
        statesAre(hotel, PAID, SENT, CANCELLED, HELD, HELD, HELD);
        Check.same("nobody waits", hotel.waiting(), 0);
    }

    private static void section08EComesBehindD() {
        HotelNights hotel = new HotelNights();
        hotel.setExtra(1, 1);
        Hotels.paid(hotel, 1, 20240227, 1);
        hotel.waitFor(1, 20240227, 1, 1, 0);
        hotel.passes(1);
        statesAre(hotel, PAID, HELD);
        Check.same("one more than there are rooms", hotel.count(1, 20240227), 2);
        hotel.passes(1);
        statesAre(hotel, OVER, CANCELLED);
    }

    private static void section08ManyDaysPassOneByOne() {
        for (int days = 1; days <= 31; days++) {
            HotelNights hotel = Hotels.busy();
            HotelNights other = Hotels.busy();
            hotel.passes(days);
            for (int i = 0; i < days; i++) {
                other.passes(1);
            }
            Check.same(days + " days", Look.at(hotel), Look.at(other));
        }
    }
}
