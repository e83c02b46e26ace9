/** Section 2: kinds. */
final class Section02KindsTest {
    private Section02KindsTest() {
    }

    private static void section02KindsAreNumberedFrom0() {
        HotelNights hotel = new HotelNights();
        Check.same("kind 0", hotel.priceOf(0, 20240226), 10000);
        Check.same("kind 1", hotel.priceOf(1, 20240226), 25000);
        Check.same("the next one", hotel.addKind(1, 100), 2);
        Check.same("kind 2", hotel.priceOf(2, 20240226), 100);
    }

    private static void section02ThereAreUpTo3Kinds() {
        Edges.noState(Hotels::withSixRooms, "a fourth kind", hotel -> hotel.addKind(1, 100));
        Check.same("kinds", Hotels.withSixRooms().kinds(), 3);
    }

    private static void section02RoomsAreNumberedFrom0() {
        HotelNights hotel = Hotels.withSixRooms();
        for (int i = 0; i < 6; i++) {
            Check.same("room of " + i, hotel.roomOf(Hotels.ask(hotel, 2, 20240301, 1)), i);
        }
    }

    private static void section02TheFewestRoomsAre1() {
        HotelNights hotel = new HotelNights();
        hotel.addKind(1, 100);
        Check.same("one stay", Hotels.ask(hotel, 2, 20240301, 1), 0);
        Check.same("a second one", Hotels.ask(hotel, 2, 20240301, 1), HotelNights.NONE);
    }

    private static void section02TheMostRoomsAre6() {
        HotelNights hotel = Hotels.withSixRooms();
        Check.same("six stays", hotel.group(2, 6, 20240301, 1, 20240301), 0);
        Check.same("a seventh one", Hotels.ask(hotel, 2, 20240301, 1), HotelNights.NONE);
    }

    private static void section02TheLeastBasePriceIs100() {
        HotelNights hotel = new HotelNights();
        hotel.addKind(1, 100);
        Check.same("price", hotel.priceOf(2, 20240301), 100);
    }

    private static void section02TheGreatestBasePriceIs100000() {
        HotelNights hotel = new HotelNights();
        hotel.addKind(1, 100000);
        Check.same("price", hotel.priceOf(2, 20240301), 100000);
        Check.same("fourteen nights", hotel.stayAt(Hotels.ask(hotel, 2, 20240301, 14), 4), 1400000);
    }

    private static void section02NoNightIsClosedAtFirst() {
        HotelNights hotel = Hotels.withSixRooms();
        for (int kind = 0; kind < 3; kind++) {
            for (int i = 0; i < 5; i++) {
                int night = hotel.addDays(20240226, 365 * i / 4);
                Check.same("night " + night, Hotels.ask(hotel, kind, night, 1) != HotelNights.NONE, true);
            }
        }
    }

    private static void section02SomeNightsOfAKindAreClosed() {
        HotelNights hotel = new HotelNights();
        hotel.closeNight(0, 20240302, true);
        hotel.closeNight(0, 20240304, true);
        int[] due = {0, HotelNights.NONE, 1, HotelNights.NONE, 2};
        for (int i = 0; i < 5; i++) {
            Check.same("night " + (20240301 + i), Hotels.ask(hotel, 0, 20240301 + i, 1), due[i]);
        }
    }

    private static void section02AClosedNightOfAKindIsOpenInAnotherOne() {
        HotelNights hotel = Hotels.withSixRooms();
        hotel.closeNight(1, 20240301, true);
        Check.same("kind 0", Hotels.ask(hotel, 0, 20240301, 1), 0);
        Check.same("kind 1", Hotels.ask(hotel, 1, 20240301, 1), HotelNights.NONE);
        Check.same("kind 2", Hotels.ask(hotel, 2, 20240301, 1), 1);
    }

    private static void section02TheExtraIs0AtFirst() {
        HotelNights hotel = Hotels.withSixRooms();
        int[] rooms = {3, 1, 6};
        for (int kind = 0; kind < 3; kind++) {
            for (int i = 0; i < rooms[kind]; i++) {
                Check.same("kind " + kind, Hotels.ask(hotel, kind, 20240301, 1) != HotelNights.NONE, true);
            }
            Check.same("full kind " + kind, Hotels.ask(hotel, kind, 20240301, 1), HotelNights.NONE);
        }
    }

    private static void section02TheLimitIsTheRoomsPlusTheExtra() {
        for (int extra = 0; extra <= 3; extra++) {
            HotelNights hotel = Hotels.withSixRooms();
            hotel.setExtra(2, extra);
            for (int i = 0; i < 6 + extra; i++) {
                Check.same("extra " + extra, Hotels.ask(hotel, 2, 20240301, 1), i);
            }
            Check.same("beyond extra " + extra, Hotels.ask(hotel, 2, 20240301, 1), HotelNights.NONE);
            Check.same("count", hotel.count(2, 20240301), 6 + extra);
        }
    }

    private static void section02TheExtraOfAKindIsNotThatOfAnotherOne() {
        HotelNights hotel = new HotelNights();
        hotel.setExtra(0, 3);
        Check.same("kind 1", Hotels.ask(hotel, 1, 20240301, 1), 0);
        Check.same("full", Hotels.ask(hotel, 1, 20240301, 1), HotelNights.NONE);
        Check.same("six stays of kind 0", hotel.group(0, 6, 20240301, 1, 20240301), 0);
    }
}
