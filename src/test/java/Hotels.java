/** Hotels that many tests begin with. */
final class Hotels {
    private Hotels() {
    }

    /** Asks for a stay of one adult, held till today. */
    static int ask(HotelNights hotel, int kind, int first, int nights) {
        return hotel.ask(kind, first, nights, 1, 0, hotel.today());
    }

    /** Asks for a stay of one adult, and pays it. */
    static int paid(HotelNights hotel, int kind, int first, int nights) {
        int stay = ask(hotel, kind, first, nights);
        hotel.pay(stay);
        return stay;
    }

    /** Some of all: a paid stay 0, a held stay 1, a group 0 of the stays 2 and 3, a guest, a sort and a sale. */
    static HotelNights busy() {
        HotelNights hotel = new HotelNights();
        hotel.setExtra(1, 1);
        hotel.ask(0, 20240305, 2, 2, 1, 20240301);
        hotel.pay(0);
        hotel.ask(1, 20240310, 3, 1, 0, 20240301);
        hotel.group(0, 2, 20240305, 2, 20240301);
        hotel.waitFor(0, 20240304, 3, 1, 2);
        hotel.setOdds(0, 10000, 500);
        hotel.sell(2, 2);
        return hotel;
    }

    /** Three kinds, the last one of 6 rooms for 1000. */
    static HotelNights withSixRooms() {
        HotelNights hotel = new HotelNights();
        hotel.addKind(6, 1000);
        return hotel;
    }

    /** Some held stays of one night each, three a night from 20240401 on, till 20240301. */
    static HotelNights withStays(int stays) {
        HotelNights hotel = new HotelNights();
        for (int i = 0; i < stays; i++) {
            hotel.ask(0, hotel.addDays(20240401, i / 3), 1, 1, 0, 20240301);
        }
        return hotel;
    }

    /** Ten groups of a stay of one night each, from 20240401 on. */
    static HotelNights withTenGroups() {
        HotelNights hotel = new HotelNights();
        for (int i = 0; i < 10; i++) {
            hotel.group(0, 1, hotel.addDays(20240401, i), 1, 20240301);
        }
        return hotel;
    }

    /** Guests that wait for a night that is closed. */
    static HotelNights withGuests(int guests) {
        HotelNights hotel = new HotelNights();
        hotel.closeNight(0, 20240401, true);
        for (int i = 0; i < guests; i++) {
            hotel.waitFor(0, 20240401, 1, 1, 0);
        }
        return hotel;
    }

    /** The stay 0 of two nights, the first one today, is SENT away, as the stay 1 came the day ahead. */
    static HotelNights withOneSentAway() {
        HotelNights hotel = new HotelNights();
        hotel.setExtra(1, 1);
        paid(hotel, 1, 20240228, 2);
        paid(hotel, 1, 20240227, 2);
        hotel.passes(2);
        return hotel;
    }

    /** The stay 0 of two nights is OVER. */
    static HotelNights withOneOver() {
        HotelNights hotel = new HotelNights();
        paid(hotel, 0, 20240226, 2);
        hotel.passes(2);
        return hotel;
    }

    /** The stay 0 of two nights, from 20240301 on, is CANCELLED. */
    static HotelNights withOneCancelled() {
        HotelNights hotel = new HotelNights();
        ask(hotel, 0, 20240301, 2);
        hotel.cancel(0);
        return hotel;
    }

    /** Nothing was sold yet in a sale: a sort for 10000 with 0.5, one for 4000 with 0.25, none with 0.25. */
    static HotelNights withTwoSorts() {
        HotelNights hotel = new HotelNights();
        hotel.setOdds(0, 10000, 500);
        hotel.setOdds(3, 4000, 250);
        return hotel;
    }

    /** Today is 20991201: far more days than 512 calls can let pass, but those that tell the time hold all the same. */
    static HotelNights atTheEndOfTheYears() {
        HotelNights hotel = new HotelNights();
        for (int i = 0; i < 1000 && hotel.today() < 20991201; i++) {
            hotel.passes(hotel.today() < 20991001 ? 31 : 1);
        }
        return hotel;
    }
}
