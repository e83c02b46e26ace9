/** Section 6: taxes, deposits, and refunds. */
final class Section06TaxesTest {
    private Section06TaxesTest() {
    }

    /** The tax of a stay of some nights and persons. */
    private static int tax(int tax, int nights, int adults, int children) {
        HotelNights hotel = new HotelNights();
        hotel.setWeekend(0, tax);
        return hotel.stayAt(hotel.ask(0, 20240301, nights, adults, children, 20240301), 6);
    }

    private static void section06TheTaxIs0AtFirst() {
        HotelNights hotel = new HotelNights();
        Check.same("tax", hotel.stayAt(hotel.ask(0, 20240301, 3, 4, 4, 20240301), 6), 0);
    }

    private static void section06TheLeastTaxIs0() {
        Check.same("tax", tax(0, 14, 4, 4), 0);
    }

    private static void section06TheGreatestTaxIs1000() {
        Check.same("tax", tax(1000, 14, 4, 4), 14 * (4 * 1000 + 4 * 500));
    }

    private static void section06ForEachAdultAndNight() {
        Check.same("1 adult, 1 night", tax(7, 1, 1, 0), 7);
        Check.same("3 adults, 1 night", tax(7, 1, 3, 0), 21);
        Check.same("3 adults, 5 nights", tax(7, 5, 3, 0), 105);
    }

    private static void section06HalfOfItForEachChildAndNight() {
        Check.same("1 child, 1 night", tax(8, 1, 1, 1), 8 + 4);
        Check.same("3 children, 5 nights", tax(8, 5, 1, 3), 5 * (8 + 3 * 4));
    }

    private static void section06TheHalfIsRoundedForEachChildAndNight() {
        Check.same("half of 7, 1 child, 1 night", tax(7, 1, 1, 1), 7 + 4);
        Check.same("half of 7, 2 children, 3 nights", tax(7, 3, 1, 2), 3 * (7 + 8));
        Check.same("half of 1", tax(1, 2, 1, 4), 2 * (1 + 4));
        Check.same("half of 999", tax(999, 1, 1, 1), 999 + 500);
    }

    private static void section06TheTaxThereIsWhenItIsAskedFor() {
        HotelNights hotel = new HotelNights();
        hotel.setWeekend(0, 100);
        Hotels.ask(hotel, 0, 20240301, 2);
        hotel.setWeekend(0, 300);
        Check.same("the old tax", hotel.stayAt(0, 6), 200);
        Hotels.ask(hotel, 0, 20240301, 2);
        Check.same("the new tax", hotel.stayAt(1, 6), 600);
    }

    private static void section06AlsoForNightsThatComeLater() {
        HotelNights hotel = new HotelNights();
        hotel.setWeekend(0, 100);
        Hotels.ask(hotel, 0, 20240301, 2);
        hotel.setWeekend(0, 300);
        hotel.longer(0, 3);
        Check.same("five nights", hotel.stayAt(0, 6), 500);
    }

    private static void section06AlsoForNightsThatGoLater() {
        HotelNights hotel = new HotelNights();
        hotel.setWeekend(0, 100);
        Hotels.ask(hotel, 0, 20240301, 3);
        hotel.setWeekend(0, 300);
        hotel.shorter(0, 2);
        Check.same("one night", hotel.stayAt(0, 6), 100);
    }

    private static void section06TheTaxOfAGuestIsThatWhenTheStayIsMade() {
        HotelNights hotel = new HotelNights();
        hotel.setWeekend(0, 100);
        hotel.waitFor(0, 20240301, 2, 1, 1);
        hotel.setWeekend(0, 300);
        hotel.setExtra(0, 1);
        Check.same("two nights", hotel.stayAt(0, 6), 2 * (300 + 150));
    }

    private static void section06TheTaxIsNoPartOfThePrice() {
        HotelNights hotel = new HotelNights();
        hotel.setWeekend(0, 1000);
        Hotels.ask(hotel, 0, 20240301, 1);
        Check.same("price", hotel.stayAt(0, 4), 10000);
        Check.same("deposit", hotel.pay(0), 2000);
    }

    private static void section06ToPayMakesAStayPaid() {
        HotelNights hotel = new HotelNights();
        Hotels.ask(hotel, 0, 20240301, 1);
        Check.same("no deposit ahead", hotel.stayAt(0, 5), 0);
        hotel.pay(0);
        Check.same("state", hotel.stayAt(0, 0), HotelNights.PAID);
    }

    /** The deposit of a stay of one night, by its price. */
    private static int deposit(int price) {
        HotelNights hotel = new HotelNights();
        hotel.addKind(1, price);
        return hotel.pay(Hotels.ask(hotel, 2, 20240301, 1));
    }

    private static void section06TheDepositIs20PercentRounded() {
        int[][] due = {{100, 20}, {101, 20}, {102, 20}, {103, 21}, {104, 21}, {105, 21}, {100000, 20000}};
        for (int[] pair : due) {
            Check.same("deposit of " + pair[0], deposit(pair[0]), pair[1]);
        }
    }

    private static void section06TheDepositOfAStayForNothing() {
        HotelNights hotel = new HotelNights();
        hotel.addSeason(301, 301, -50, 1);
        hotel.addSeason(301, 301, -50, 1);
        Check.same("deposit", hotel.pay(Hotels.ask(hotel, 0, 20240301, 1)), 0);
        Check.same("state", hotel.stayAt(0, 0), HotelNights.PAID);
        Check.same("refund", hotel.cancel(0), 0);
    }

    private static void section06TheDepositIsOfThePriceThen() {
        HotelNights hotel = new HotelNights();
        Hotels.ask(hotel, 0, 20240301, 1);
        hotel.longer(0, 2);
        Check.same("deposit of three nights", hotel.pay(0), 6000);
    }

    /** The refund of a paid stay, some days ahead of its first night. */
    private static int refund(int price, int days) {
        HotelNights hotel = new HotelNights();
        hotel.addKind(1, price);
        Hotels.paid(hotel, 2, hotel.addDays(20240226, days), 1);
        return hotel.refund(0);
    }

    private static void section06TheWholeDepositFrom14DaysOn() {
        Check.same("14 days", refund(1000, 14), 200);
        Check.same("15 days", refund(1000, 15), 200);
        Check.same("365 days", refund(1000, 365), 200);
    }

    private static void section06HalfOfTheDepositBelow14Days() {
        Check.same("13 days", refund(1000, 13), 100);
        Check.same("4 days", refund(1000, 4), 100);
    }

    private static void section06HalfOfTheDepositFrom3DaysOn() {
        Check.same("3 days", refund(1000, 3), 100);
    }

    private static void section06NothingBelow3Days() {
        Check.same("2 days", refund(1000, 2), 0);
        Check.same("1 day", refund(1000, 1), 0);
        Check.same("today", refund(1000, 0), 0);
    }

    private static void section06NothingBehindItsFirstNight() {
        HotelNights hotel = new HotelNights();
        Hotels.paid(hotel, 0, 20240226, 14);
        hotel.passes(5);
        Check.same("refund", hotel.refund(0), 0);
    }

    private static void section06HalfOfAnOddDepositIsRoundedUp() {
        Check.same("half of 21", refund(105, 13), 11);
        Check.same("half of 20", refund(100, 13), 10);
        Check.same("the whole of 21", refund(105, 14), 21);
    }

    private static void section06TheRefundBecomesLessDayByDay() {
        HotelNights hotel = new HotelNights();
        Hotels.paid(hotel, 0, 20240312, 1);
        Check.same("15 days", hotel.refund(0), 2000);
        hotel.passes(1);
        Check.same("14 days", hotel.refund(0), 2000);
        hotel.passes(1);
        Check.same("13 days", hotel.refund(0), 1000);
        hotel.passes(10);
        Check.same("3 days", hotel.refund(0), 1000);
        hotel.passes(1);
        Check.same("2 days", hotel.refund(0), 0);
    }

    private static void section06AStayThatIsNotPaidHasNoRefund() {
        HotelNights hotel = new HotelNights();
        Hotels.ask(hotel, 0, 20240401, 1);
        Check.same("held", hotel.refund(0), 0);
        hotel.pay(0);
        hotel.cancel(0);
        Check.same("cancelled", hotel.refund(0), 0);
        Check.same("sent away", Hotels.withOneSentAway().refund(0), 0);
        Check.same("over", Hotels.withOneOver().refund(0), 0);
    }
}
