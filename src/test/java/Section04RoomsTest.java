/** Section 4: rooms. */
final class Section04RoomsTest {
    private Section04RoomsTest() {
    }

    private static void section04StaysAreGoneThroughByTheirFirstNights() {
        HotelNights hotel = new HotelNights();
        Hotels.ask(hotel, 0, 20240303, 1);
        Hotels.ask(hotel, 0, 20240302, 2);
        Hotels.ask(hotel, 0, 20240301, 3);
        Check.same("the latest first night", hotel.roomOf(0), 2);
        Check.same("the one between", hotel.roomOf(1), 1);
        Check.same("the earliest first night", hotel.roomOf(2), 0);
    }

    private static void section04ThoseWithTheSameFirstNightByTheirNumbers() {
        HotelNights hotel = new HotelNights();
        Hotels.ask(hotel, 0, 20240301, 1);
        Hotels.ask(hotel, 0, 20240301, 5);
        Hotels.ask(hotel, 0, 20240301, 3);
        for (int stay = 0; stay < 3; stay++) {
            Check.same("room of " + stay, hotel.roomOf(stay), stay);
        }
    }

    private static void section04TheLowestRoomOfSeveral() {
        HotelNights hotel = new HotelNights();
        Hotels.ask(hotel, 0, 20240301, 3);
        Hotels.ask(hotel, 0, 20240301, 1);
        Hotels.ask(hotel, 0, 20240301, 1);
        Check.same("the rooms 1 and 2 are free", hotel.roomOf(Hotels.ask(hotel, 0, 20240302, 1)), 1);
        Check.same("all are free", hotel.roomOf(Hotels.ask(hotel, 0, 20240304, 1)), 0);
    }

    private static void section04ALastNightOnTheFirstNightOfThisOne() {
        HotelNights hotel = new HotelNights();
        Hotels.ask(hotel, 0, 20240229, 2);
        Check.same("last night on the first one", hotel.roomOf(Hotels.ask(hotel, 0, 20240301, 1)), 1);
    }

    private static void section04ALastNightAheadOfTheFirstNightOfThisOne() {
        HotelNights hotel = new HotelNights();
        Hotels.ask(hotel, 0, 20240229, 2);
        Check.same("last night the day ahead", hotel.roomOf(Hotels.ask(hotel, 0, 20240302, 1)), 0);
    }

    private static void section04ALastNightBehindTheFirstNightOfThisOne() {
        HotelNights hotel = new HotelNights();
        Hotels.ask(hotel, 0, 20240229, 3);
        Check.same("last night a day behind", hotel.roomOf(Hotels.ask(hotel, 0, 20240301, 1)), 1);
    }

    private static void section04ThereMayBeNone() {
        HotelNights hotel = new HotelNights();
        hotel.setExtra(1, 2);
        Hotels.ask(hotel, 1, 20240301, 2);
        Hotels.ask(hotel, 1, 20240301, 1);
        Hotels.ask(hotel, 1, 20240302, 2);
        Hotels.ask(hotel, 1, 20240303, 1);
        Check.same("the first one", hotel.roomOf(0), 0);
        Check.same("none on the same night", hotel.roomOf(1), HotelNights.NONE);
        Check.same("none on its last night", hotel.roomOf(2), HotelNights.NONE);
        Check.same("one without a room holds none from others", hotel.roomOf(3), 0);
    }

    private static void section04StaysThatAreNotAliveHaveNoRoom() {
        HotelNights hotel = new HotelNights();
        Hotels.ask(hotel, 0, 20240301, 1);
        Hotels.ask(hotel, 0, 20240301, 1);
        hotel.cancel(0);
        Check.same("the room came free", hotel.roomOf(1), 0);
    }

    private static void section04StaysOfAnotherKindHaveOtherRooms() {
        HotelNights hotel = new HotelNights();
        Hotels.ask(hotel, 0, 20240301, 1);
        Hotels.ask(hotel, 1, 20240301, 1);
        Check.same("kind 0", hotel.roomOf(0), 0);
        Check.same("kind 1", hotel.roomOf(1), 0);
    }

    private static void section04TheRoomsChangeWhenAStayIsMadeLonger() {
        HotelNights hotel = new HotelNights();
        Hotels.ask(hotel, 0, 20240301, 1);
        Hotels.ask(hotel, 0, 20240302, 1);
        Check.same("one behind the other", hotel.roomOf(1), 0);
        hotel.longer(0, 1);
        Check.same("the last night is the first one", hotel.roomOf(1), 1);
        hotel.shorter(0, 1);
        Check.same("shorter again", hotel.roomOf(1), 0);
    }

    private static void section04NineStaysOfSixRooms() {
        HotelNights hotel = Hotels.withSixRooms();
        hotel.setExtra(2, 3);
        for (int i = 0; i < 9; i++) {
            int room = hotel.roomOf(Hotels.ask(hotel, 2, 20240301, 1));
            Check.same("room of " + i, room, i < 6 ? i : HotelNights.NONE);
        }
    }
}
