/** Section 12: housekeepers. */
final class Section12HousekeepersTest {
    private Section12HousekeepersTest() {
    }

    /** Rooms whose stays had their last night on 20240301, and rooms whose stays have one more; six of kind 2 first. */
    private static HotelNights withRooms(int lasts, int others) {
        HotelNights hotel = Hotels.withSixRooms();
        for (int i = 0; i < lasts + others; i++) {
            Hotels.ask(hotel, i < 6 ? 2 : 0, 20240301, i < lasts ? 1 : 2);
        }
        return hotel;
    }

    private static void section12NoRoomNeedsAMinute() {
        HotelNights hotel = new HotelNights();
        Check.same("minutes", hotel.minutes(20240302), 0);
        Check.same("rounds", hotel.rounds(20240302), 0);
    }

    private static void section12TheLastNightOnTheNightAhead() {
        Check.same("minutes", withRooms(1, 0).minutes(20240302), 45);
        Check.same("a day on", withRooms(1, 0).minutes(20240303), 0);
    }

    private static void section12ANightThatIsNotTheLastOne() {
        Check.same("minutes", withRooms(0, 1).minutes(20240302), 20);
        Check.same("a day on it is the last one", withRooms(0, 1).minutes(20240303), 45);
        Check.same("two days on", withRooms(0, 1).minutes(20240304), 0);
    }

    private static void section12TheMorningOfTheFirstNight() {
        Check.same("minutes", withRooms(1, 1).minutes(20240301), 0);
        Check.same("rounds", withRooms(1, 1).rounds(20240301), 0);
    }

    private static void section12AMorningBehindTheLastDayOfAMonth() {
        HotelNights hotel = new HotelNights();
        Hotels.ask(hotel, 0, 20240229, 1);
        Hotels.ask(hotel, 0, 20241231, 1);
        Check.same("behind 20240229", hotel.minutes(20240301), 45);
        Check.same("behind 20241231", hotel.minutes(20250101), 45);
    }

    private static void section12TheFirstAndTheLastDate() {
        HotelNights hotel = withRooms(2, 2);
        Check.same("minutes of the first", hotel.minutes(20000101), 0);
        Check.same("minutes of the last", hotel.minutes(20991231), 0);
        Check.same("rounds of the first", hotel.rounds(20000101), 0);
        Check.same("rounds of the last", hotel.rounds(20991231), 0);
    }

    private static void section12AStayWithoutARoomNeedsNone() {
        HotelNights hotel = new HotelNights();
        hotel.setExtra(1, 3);
        hotel.group(1, 4, 20240301, 1, 20240301);
        Check.same("minutes of one room", hotel.minutes(20240302), 45);
        Check.same("rounds of one room", hotel.rounds(20240302), 1);
    }

    private static void section12AStayThatIsNotAliveHasNoRoom() {
        HotelNights hotel = new HotelNights();
        Hotels.paid(hotel, 0, 20240226, 1);
        Check.same("a day ahead", hotel.minutes(20240227), 45);
        hotel.passes(1);
        Check.same("the stay is over", hotel.minutes(20240227), 0);
    }

    private static void section12RoomsOfAllKinds() {
        HotelNights hotel = Hotels.withSixRooms();
        for (int kind = 0; kind < 3; kind++) {
            Hotels.ask(hotel, kind, 20240301, kind == 1 ? 2 : 1);
        }
        Check.same("minutes", hotel.minutes(20240302), 45 + 20 + 45);
        Check.same("rounds", hotel.rounds(20240302), 1);
    }

    private static void section12OneStayBehindTheOtherInARoom() {
        HotelNights hotel = new HotelNights();
        Hotels.ask(hotel, 1, 20240301, 1);
        Hotels.ask(hotel, 1, 20240302, 2);
        Check.same("the first one's last night", hotel.minutes(20240302), 45);
        Check.same("the second one's first night", hotel.minutes(20240303), 20);
    }

    private static void roundsAre(int lasts, int others, int due) {
        HotelNights hotel = withRooms(lasts, others);
        String what = lasts + " of 45 and " + others + " of 20";
        Check.same("minutes of " + what, hotel.minutes(20240302), 45 * lasts + 20 * others);
        Check.same("rounds of " + what, hotel.rounds(20240302), due);
    }

    private static void section12ARoundOfJust120Minutes() {
        roundsAre(0, 6, 1);
    }

    private static void section12JustBeyond120Minutes() {
        roundsAre(0, 7, 2);
        roundsAre(1, 4, 2);
        roundsAre(2, 2, 2);
        roundsAre(3, 0, 2);
    }

    private static void section12TheMostThatARoundHolds() {
        roundsAre(1, 3, 1);
        roundsAre(2, 1, 1);
    }

    private static void section12ARoomIsNotDivided() {
        roundsAre(5, 0, 3);
        roundsAre(4, 3, 3);
        roundsAre(5, 3, 3);
        roundsAre(7, 1, 4);
    }

    private static void section12RoundsAreFewestByMixingRooms() {
        roundsAre(2, 6, 2);
        roundsAre(4, 2, 2);
        roundsAre(3, 4, 2);
        roundsAre(3, 5, 3);
    }

    private static void section12AllRoomsOfThreeKinds() {
        HotelNights hotel = Hotels.withSixRooms();
        hotel.group(0, 3, 20240301, 1, 20240301);
        hotel.group(1, 1, 20240301, 1, 20240301);
        hotel.group(2, 6, 20240301, 1, 20240301);
        Check.same("minutes", hotel.minutes(20240302), 450);
        Check.same("rounds", hotel.rounds(20240302), 5);
    }
}
