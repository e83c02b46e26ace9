import java.time.LocalDate;

/** All that can be seen of a hotel, as one text. */
final class Look {
    private Look() {
    }

    static String at(HotelNights hotel) {
        StringBuilder text = new StringBuilder();
        text.append(hotel.today()).append(' ').append(hotel.refusedNight()).append(' ').append(hotel.waiting());
        text.append(' ').append(hotel.checksum()).append(' ').append(hotel.meanPrice());
        for (int book = 0; book < 4; book++) {
            text.append(" b").append(hotel.book(book));
        }
        addNights(hotel, text);
        addStays(hotel, text);
        addOffers(hotel, text);
        return text.toString();
    }

    private static void addNights(HotelNights hotel, StringBuilder text) {
        LocalDate today = toDate(hotel.today());
        for (int kind = 0; kind < hotel.kinds(); kind++) {
            text.append("\nkind ").append(kind).append(" needs ").append(hotel.needed(kind));
            for (int i = -3; i < 40 && today.plusDays(i).getYear() < 2100; i++) {
                int night = toNumber(today.plusDays(i));
                text.append(' ').append(hotel.count(kind, night)).append('/').append(hotel.priceOf(kind, night));
            }
        }
        for (int month = 1; month <= 12; month++) {
            text.append(' ').append(hotel.monthNights(202400 + month));
            text.append(' ').append(hotel.monthIncome(202400 + month));
        }
        text.append(' ').append(hotel.minutes(hotel.today())).append(' ').append(hotel.rounds(hotel.today()));
    }

    private static void addStays(HotelNights hotel, StringBuilder text) {
        for (int stay = 0; stay < stays(hotel); stay++) {
            text.append("\nstay");
            for (int what = 0; what <= 8; what++) {
                text.append(' ').append(hotel.stayAt(stay, what));
            }
            text.append(' ').append(hotel.refund(stay));
        }
    }

    private static void addOffers(HotelNights hotel, StringBuilder text) {
        text.append('\n').append(hotel.awaited(4, 5)).append(' ').append(hotel.awaited(1, 1));
        for (int what = 0; what < 4; what++) {
            try {
                text.append(' ').append(hotel.saleAt(what));
            } catch (IllegalStateException e) {
                text.append(" no sale");
            }
        }
    }

    /** The number of stays: those that have a state. */
    static int stays(HotelNights hotel) {
        for (int stay = 0; stay < 60; stay++) {
            try {
                hotel.stayAt(stay, 0);
            } catch (IndexOutOfBoundsException e) {
                return stay;
            }
        }
        return 60;
    }

    static LocalDate toDate(int number) {
        return LocalDate.of(number / 10000, number / 100 % 100, number % 100);
    }

    static int toNumber(LocalDate date) {
        return date.getYear() * 10000 + date.getMonthValue() * 100 + date.getDayOfMonth();
    }
}
