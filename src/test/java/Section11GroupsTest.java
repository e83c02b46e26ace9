/** Section 11: groups. */
final class Section11GroupsTest {
    private static final int NONE = HotelNights.NONE;

    private Section11GroupsTest() {
    }

    private static void section11AGroupOf1Stay() {
        HotelNights hotel = new HotelNights();
        Check.same("group", hotel.group(0, 1, 20240301, 1, 20240301), 0);
        Check.same("stays", Look.stays(hotel), 1);
    }

    private static void section11AGroupOf6Stays() {
        HotelNights hotel = Hotels.withSixRooms();
        Check.same("group", hotel.group(2, 6, 20240301, 1, 20240301), 0);
        Check.same("stays", Look.stays(hotel), 6);
    }

    private static void section11TheStaysAreAlike() {
        HotelNights hotel = Hotels.withSixRooms();
        hotel.setWeekend(0, 100);
        hotel.group(2, 6, 20240301, 3, 20240229);
        for (int stay = 0; stay < 6; stay++) {
            Check.same("state", hotel.stayAt(stay, 0), HotelNights.HELD);
            Check.same("kind", hotel.stayAt(stay, 1), 2);
            Check.same("first night", hotel.stayAt(stay, 2), 20240301);
            Check.same("nights", hotel.stayAt(stay, 3), 3);
            Check.same("tax of one adult", hotel.stayAt(stay, 6), 300);
            Check.same("group", hotel.stayAt(stay, 7), 0);
            Check.same("held till", hotel.stayAt(stay, 8), 20240229);
        }
    }

    private static void section11EachOneIsAskedForBehindTheOnesAheadOfIt() {
        HotelNights hotel = new HotelNights();
        hotel.group(0, 3, 20240304, 1, 20240304);
        int[] due = {10000, 11000, 12000};
        for (int stay = 0; stay < 3; stay++) {
            Check.same("price of " + stay, hotel.stayAt(stay, 4), due[stay]);
        }
    }

    private static void section11TheLastOneThatFits() {
        HotelNights hotel = new HotelNights();
        Hotels.ask(hotel, 0, 20240301, 1);
        Check.same("two fit", hotel.group(0, 2, 20240301, 1, 20240301), 0);
        Check.same("count", hotel.count(0, 20240301), 3);
    }

    private static void section11NoneOfThemIfTheLastOneIsRefused() {
        HotelNights hotel = new HotelNights();
        Hotels.ask(hotel, 0, 20240301, 1);
        String before = hotel.count(0, 20240301) + " " + hotel.checksum();
        Check.same("three don't fit", hotel.group(0, 3, 20240301, 1, 20240301), NONE);
        Check.same("nothing was made", hotel.count(0, 20240301) + " " + hotel.checksum(), before);
        Check.same("stays", Look.stays(hotel), 1);
        Check.same("refused night", hotel.refusedNight(), 20240301);
    }

    private static void section11NoneOfThemIfTheFirstOneIsRefused() {
        HotelNights hotel = new HotelNights();
        hotel.closeNight(0, 20240302, true);
        Check.same("closed", hotel.group(0, 3, 20240301, 3, 20240301), NONE);
        Check.same("stays", Look.stays(hotel), 0);
        Check.same("refused night", hotel.refusedNight(), 20240302);
    }

    private static void section11RefusedForTheLeastNumber() {
        HotelNights hotel = new HotelNights();
        hotel.addSeason(301, 331, 0, 3);
        Check.same("2 nights", hotel.group(0, 2, 20240301, 2, 20240301), NONE);
        Check.same("refused night", hotel.refusedNight(), 20240301);
        Check.same("3 nights", hotel.group(0, 2, 20240301, 3, 20240301), 0);
    }

    private static void section11TheRefusedNightOfTheFirstStayThatWasRefused() {
        HotelNights hotel = new HotelNights();
        hotel.group(0, 2, 20240303, 1, 20240303);
        Hotels.ask(hotel, 0, 20240301, 1);
        hotel.group(0, 3, 20240301, 3, 20240301);
        Check.same("the second one finds the last night full", hotel.refusedNight(), 20240303);
    }

    private static void section11GroupsAreNumberedFrom0() {
        HotelNights hotel = new HotelNights();
        Check.same("first group", hotel.group(0, 1, 20240301, 1, 20240301), 0);
        Check.same("refused", hotel.group(1, 2, 20240301, 1, 20240301), NONE);
        Check.same("second group", hotel.group(0, 1, 20240301, 1, 20240301), 1);
        Check.same("group of the stay", hotel.stayAt(1, 7), 1);
    }

    private static void section11TheTenthGroup() {
        HotelNights hotel = Hotels.withTenGroups();
        Check.same("its stay", hotel.stayAt(9, 7), 9);
        Check.same("it is let go", hotel.letGo(9), 1);
    }

    private static void section11NoGroupBehindTheTenth() {
        Edges.noState(Hotels::withTenGroups, "group", hotel -> hotel.group(0, 1, 20240301, 1, 20240301));
    }

    private static void section11GroupsThatWereLetGoCountAmongTheTen() {
        HotelNights hotel = Hotels.withTenGroups();
        hotel.letGo(0);
        Check.noState(hotel, "group", () -> hotel.group(0, 1, 20240301, 1, 20240301));
    }

    private static void section11LettingGoCancelsAllThatAreHeld() {
        HotelNights hotel = Hotels.withSixRooms();
        hotel.group(2, 6, 20240301, 1, 20240301);
        Check.same("cancelled", hotel.letGo(0), 6);
        for (int stay = 0; stay < 6; stay++) {
            Check.same("state", hotel.stayAt(stay, 0), HotelNights.CANCELLED);
        }
        Check.same("count", hotel.count(2, 20240301), 0);
    }

    private static void section11LettingGoKeepsThoseThatArePaid() {
        HotelNights hotel = new HotelNights();
        hotel.group(0, 3, 20240301, 1, 20240301);
        hotel.pay(1);
        Check.same("cancelled", hotel.letGo(0), 2);
        Check.same("the paid one", hotel.stayAt(1, 0), HotelNights.PAID);
    }

    private static void section11LettingGoOfAGroupWithoutAHeldStay() {
        HotelNights hotel = new HotelNights();
        hotel.group(0, 2, 20240301, 1, 20240301);
        hotel.pay(0);
        hotel.cancel(1);
        Check.same("cancelled", hotel.letGo(0), 0);
        Check.same("it is a change", hotel.undo(), 3);
    }

    private static void section11LettingGoKeepsOtherStays() {
        HotelNights hotel = new HotelNights();
        hotel.group(0, 1, 20240301, 1, 20240301);
        hotel.group(0, 1, 20240301, 1, 20240301);
        Hotels.ask(hotel, 0, 20240301, 1);
        Check.same("cancelled", hotel.letGo(1), 1);
        Check.same("another group", hotel.stayAt(0, 0), HotelNights.HELD);
        Check.same("no group", hotel.stayAt(2, 0), HotelNights.HELD);
    }

    private static void section11AStayOfAGroupCanBeCancelledForItself() {
        HotelNights hotel = new HotelNights();
        hotel.group(0, 2, 20240301, 1, 20240301);
        Check.same("held", hotel.cancel(0), 0);
        Check.same("the other one", hotel.letGo(0), 1);
    }
}
