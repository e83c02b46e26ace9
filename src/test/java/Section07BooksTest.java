/** Section 7: books. */
final class Section07BooksTest {
    private Section07BooksTest() {
    }

    private static void booksAre(HotelNights hotel, long guests, long deposits, long income, long taxes) {
        Check.same("GUESTS", hotel.book(HotelNights.GUESTS), guests);
        Check.same("DEPOSITS", hotel.book(HotelNights.DEPOSITS), deposits);
        Check.same("INCOME", hotel.book(HotelNights.INCOME), income);
        Check.same("TAXES", hotel.book(HotelNights.TAXES), taxes);
    }

    private static void section07EachBalanceIs0AtFirst() {
        booksAre(new HotelNights(), 0, 0, 0, 0);
    }

    private static void section07AskingForAStayGoesIntoNoBook() {
        HotelNights hotel = new HotelNights();
        Hotels.ask(hotel, 0, 20240301, 1);
        hotel.group(0, 2, 20240301, 1, 20240301);
        booksAre(hotel, 0, 0, 0, 0);
    }

    private static void section07Paying() {
        HotelNights hotel = new HotelNights();
        hotel.setWeekend(0, 100);
        Hotels.paid(hotel, 0, 20240301, 1);
        booksAre(hotel, -2000, 2000, 0, 0);
    }

    private static void section07CancellingAHeldStayGoesIntoNoBook() {
        HotelNights hotel = new HotelNights();
        Hotels.ask(hotel, 0, 20240301, 1);
        hotel.cancel(0);
        booksAre(hotel, 0, 0, 0, 0);
    }

    private static void section07LettingGoGoesIntoNoBook() {
        HotelNights hotel = new HotelNights();
        hotel.group(0, 2, 20240301, 1, 20240301);
        hotel.pay(0);
        hotel.letGo(0);
        booksAre(hotel, -2000, 2000, 0, 0);
    }

    private static void section07CancellingWithAWholeRefund() {
        HotelNights hotel = new HotelNights();
        hotel.cancel(Hotels.paid(hotel, 0, 20240311, 1));
        booksAre(hotel, 0, 0, 0, 0);
    }

    private static void section07CancellingWithHalfARefund() {
        HotelNights hotel = new HotelNights();
        hotel.addKind(1, 105);
        hotel.cancel(Hotels.paid(hotel, 2, 20240310, 1));
        booksAre(hotel, -10, 0, 10, 0);
    }

    private static void section07CancellingWithoutARefund() {
        HotelNights hotel = new HotelNights();
        hotel.setWeekend(0, 100);
        hotel.cancel(Hotels.paid(hotel, 0, 20240228, 1));
        booksAre(hotel, -2000, 0, 2000, 0);
    }

    private static void section07AStayThatIsSentAway() {
        HotelNights hotel = Hotels.withOneSentAway();
        int other = hotel.stayAt(1, 5);
        booksAre(hotel, -other, other, 0, 0);
    }

    private static void section07AStayThatIsOver() {
        HotelNights hotel = new HotelNights();
        hotel.setWeekend(0, 101);
        int stay = hotel.ask(0, 20240226, 2, 2, 1, 20240226);
        hotel.pay(stay);
        booksAre(hotel, -4000, 4000, 0, 0);
        hotel.passes(2);
        booksAre(hotel, -20506, 0, 20000, 506);
    }

    private static void section07AStayThatIsOverWithADepositAboveItsPrice() {
        HotelNights hotel = new HotelNights();
        Hotels.paid(hotel, 0, 20240226, 14);
        hotel.shorter(0, 13);
        booksAre(hotel, -28000, 28000, 0, 0);
        hotel.passes(1);
        booksAre(hotel, -10000, 0, 10000, 0);
    }

    private static void section07AHeldStayThatDaysCancelGoesIntoNoBook() {
        HotelNights hotel = new HotelNights();
        Hotels.ask(hotel, 0, 20240226, 1);
        hotel.passes(1);
        booksAre(hotel, 0, 0, 0, 0);
    }

    private static void section07MakingLongerAndShorterGoesIntoNoBook() {
        HotelNights hotel = new HotelNights();
        Hotels.paid(hotel, 0, 20240301, 2);
        hotel.longer(0, 2);
        booksAre(hotel, -4000, 4000, 0, 0);
        hotel.shorter(0, 3);
        booksAre(hotel, -4000, 4000, 0, 0);
    }

    private static void section07TheIncomeOfASaleGoesIntoNoBook() {
        HotelNights hotel = new HotelNights();
        hotel.sell(1, 1);
        Check.same("taken", hotel.offer(500), 500);
        booksAre(hotel, 0, 0, 0, 0);
    }

    private static void section07TheBooksTogetherAre0() {
        HotelNights hotel = Hotels.busy();
        for (int day = 0; day < 20; day++) {
            long sum = 0;
            for (int book = 0; book < 4; book++) {
                sum += hotel.book(book);
            }
            Check.same("sum on day " + day, sum, 0);
            hotel.passes(1);
        }
    }
}
