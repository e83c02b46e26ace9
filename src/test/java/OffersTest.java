/** Promises 16 to 18 and 34 to 37: sorts of offers, sales, awaited income, limits, and how many stays more. */
final class OffersTest {
    private OffersTest() {
    }

    private static void promise16SetOdds() {
        HotelNights hotel = new HotelNights();
        Check.same("no odds", hotel.setOdds(2, 100000, 0), 0);
        Check.same("first sort", hotel.setOdds(0, 100000, 600), 600);
        Check.same("last sort", hotel.setOdds(3, 0, 400), 1000);
        Check.same("another price", hotel.setOdds(0, 5000, 600), 1000);
        Check.noIndex(hotel, "sort 4", () -> hotel.setOdds(4, 0, 1001));
        Check.noIndex(hotel, "sort -1", () -> hotel.setOdds(-1, 0, 0));
        Check.noArgument(hotel, "price -1", () -> hotel.setOdds(1, -1, 0));
        Check.noArgument(hotel, "price 100001", () -> hotel.setOdds(1, 100001, 0));
        Check.noArgument(hotel, "odds -1", () -> hotel.setOdds(1, 0, -1));
        Check.noArgument(hotel, "odds 1001", () -> hotel.setOdds(0, 0, 1001));
        Check.noArgument(hotel, "most odds", () -> hotel.setOdds(0, 0, Integer.MAX_VALUE));
        Check.noArgument(hotel, "1001 together", () -> hotel.setOdds(1, 0, 1));
        Check.noArgument(hotel, "1001 together", () -> hotel.setOdds(3, 0, 401));
        Check.same("odds 0", hotel.setOdds(0, 0, 0), 400);
        Check.same("as much as is left", hotel.setOdds(1, 0, 600), 1000);
    }

    private static void promise17Sell() {
        HotelNights hotel = Hotels.withTwoSorts();
        Check.same("without another day", hotel.sell(1, 1), 0);
        Check.same("first limit", hotel.sell(2, 1), 6000);
        Check.same("days", hotel.saleAt(0), 2);
        hotel.offer(6000);
        Check.same("the next sale takes its place", hotel.sell(4, 4), 0);
        Check.same("days", hotel.saleAt(0), 4);
        Check.same("rooms", hotel.saleAt(1), 4);
        Check.same("income", hotel.saleAt(2), 0);
        Check.same("best", hotel.saleAt(3), 0);
        Check.noArgument(hotel, "0 days", () -> hotel.sell(0, 1));
        Check.noArgument(hotel, "5 days", () -> hotel.sell(5, 1));
        Check.noArgument(hotel, "0 rooms", () -> hotel.sell(1, 0));
        Check.noArgument(hotel, "5 rooms", () -> hotel.sell(1, 5));
        Check.same("no odds", new HotelNights().sell(4, 1), 0);
    }

    private static void promise18Offer() {
        HotelNights hotel = Hotels.withTwoSorts();
        Check.noState(hotel, "no sale", () -> hotel.offer(100));
        Check.noArgument(hotel, "argument ahead of state", () -> hotel.offer(-1));
        Check.noArgument(hotel, "price 100001", () -> hotel.offer(100001));
        hotel.sell(3, 1);
        Check.same("limit", hotel.limit(3, 1), 8000);
        Check.same("below the limit", hotel.offer(7999), HotelNights.NONE);
        Check.same("at the next limit", hotel.offer(6000), 6000);
        Check.same("no room", hotel.offer(100000), HotelNights.NONE);
        Check.same("days", hotel.saleAt(0), 0);
        Check.noState(hotel, "no day", () -> hotel.offer(100));
        Check.noArgument(hotel, "argument ahead of state", () -> hotel.offer(100001));
        hotel.sell(2, 2);
        Check.same("an offer of nothing", hotel.offer(0), 0);
        Check.same("income so far", hotel.offer(100000), 100000);
        hotel.sell(2, 2);
        hotel.offer(300);
        Check.same("sum of both", hotel.offer(200), 500);
    }

    private static void promise18OddsChangeWithinASale() {
        HotelNights hotel = Hotels.withTwoSorts();
        hotel.sell(2, 1);
        hotel.setOdds(0, 10000, 0);
        Check.same("the limit is now 1000", hotel.limit(2, 1), 1000);
        Check.same("below", hotel.offer(999), HotelNights.NONE);
        hotel.undo();
        Check.same("just at it", hotel.offer(1000), 1000);
    }

    private static void promise34Awaited() {
        HotelNights hotel = Hotels.withTwoSorts();
        Check.same("no day", hotel.awaited(0, 5), 0);
        Check.same("no room", hotel.awaited(4, 0), 0);
        Check.same("one day", hotel.awaited(1, 1), 6000000L);
        Check.same("one day, five rooms", hotel.awaited(1, 5), 6000000L);
        Check.same("two days, one room", hotel.awaited(2, 1), 8000000000L);
        Check.same("two days, two rooms", hotel.awaited(2, 2), 12000000000L);
        Check.same("three days, one room", hotel.awaited(3, 1), 9000000000000L);
        Check.noArgument(hotel, "-1 days", () -> hotel.awaited(-1, 1));
        Check.noArgument(hotel, "5 days", () -> hotel.awaited(5, 1));
        Check.noArgument(hotel, "-1 rooms", () -> hotel.awaited(1, -1));
        Check.noArgument(hotel, "6 rooms", () -> hotel.awaited(1, 6));
        Check.same("without odds", new HotelNights().awaited(4, 5), 0);
    }

    private static void promise34AwaitedTheGreatest() {
        HotelNights hotel = new HotelNights();
        hotel.setOdds(0, 100000, 1000);
        Check.same("four days, five rooms", hotel.awaited(4, 5), 400000000000000000L);
        Check.same("four days, two rooms", hotel.awaited(4, 2), 200000000000000000L);
    }

    private static void promise35Limit() {
        HotelNights hotel = Hotels.withTwoSorts();
        Check.same("one day", hotel.limit(1, 1), 0);
        Check.same("two days, one room", hotel.limit(2, 1), 6000);
        Check.same("two days, two rooms", hotel.limit(2, 2), 0);
        Check.same("three days, two rooms", hotel.limit(3, 2), 4000);
        Check.same("four days, one room", hotel.limit(4, 1), 9000);
        Check.noArgument(hotel, "0 days", () -> hotel.limit(0, 1));
        Check.noArgument(hotel, "5 days", () -> hotel.limit(5, 1));
        Check.noArgument(hotel, "0 rooms", () -> hotel.limit(1, 0));
        Check.noArgument(hotel, "5 rooms", () -> hotel.limit(1, 5));
        hotel.setOdds(0, 1, 1);
        hotel.setOdds(3, 0, 0);
        Check.same("0.001 cents", hotel.limit(2, 1), 1);
        hotel.setOdds(0, 1001, 1000);
        Check.same("a whole number", hotel.limit(2, 1), 1001);
        hotel.setOdds(0, 1001, 999);
        Check.same("999.999 cents", hotel.limit(2, 1), 1000);
    }

    private static void promise36SaleAt() {
        HotelNights hotel = Hotels.withTwoSorts();
        Check.noState(hotel, "no sale", () -> hotel.saleAt(0));
        Check.noArgument(hotel, "argument ahead of state", () -> hotel.saleAt(4));
        hotel.sell(4, 2);
        Check.noArgument(hotel, "4", () -> hotel.saleAt(4));
        Check.noArgument(hotel, "-1", () -> hotel.saleAt(-1));
        int[] offers = {500, 10000, 3000, 20000};
        int[] best = {500, 10500, 13000, 30000};
        int[] income = {0, 10000, 10000, 30000};
        int[] rooms = {2, 1, 1, 0};
        for (int i = 0; i < 4; i++) {
            hotel.offer(offers[i]);
            Check.same("days", hotel.saleAt(0), 3 - i);
            Check.same("rooms", hotel.saleAt(1), rooms[i]);
            Check.same("income", hotel.saleAt(2), income[i]);
            Check.same("best in hindsight", hotel.saleAt(3), best[i]);
        }
        hotel.undo();
        Check.same("best in hindsight, undone", hotel.saleAt(3), 13000);
        hotel.offer(12000);
        Check.same("best in hindsight, another offer", hotel.saleAt(3), 22000);
        for (int i = 0; i < 5; i++) {
            hotel.undo();
        }
        Check.noState(hotel, "the sale is undone", () -> hotel.saleAt(0));
        hotel.sell(2, 1);
        hotel.sell(2, 2);
        hotel.undo();
        hotel.offer(10);
        hotel.offer(20);
        Check.same("best in hindsight of one room", hotel.saleAt(3), 20);
    }

    private static void promise37MoreToSell() {
        HotelNights hotel = new HotelNights();
        Check.same("none comes", hotel.moreToSell(0, 0, 0), 3);
        Check.same("all come", hotel.moreToSell(0, 1000, 999), 0);
        Check.same("any risk", hotel.moreToSell(0, 1000, 1000), 3);
        Check.same("no risk", hotel.moreToSell(0, 1, 0), 0);
        Check.same("one room, a half", hotel.moreToSell(1, 500, 250), 1);
        Check.same("one room, a half", hotel.moreToSell(1, 500, 249), 0);
        Check.same("one room, a half, two more", hotel.moreToSell(1, 500, 500), 2);
        Check.same("one room, a half, two more", hotel.moreToSell(1, 500, 499), 1);
        Check.same("one room, a half, three more", hotel.moreToSell(1, 500, 688), 3);
        Check.same("one room, a half, three more", hotel.moreToSell(1, 500, 687), 2);
        Check.same("three rooms, 0.8", hotel.moreToSell(0, 800, 410), 1);
        Check.same("three rooms, 0.8", hotel.moreToSell(0, 800, 409), 0);
        Check.noIndex(hotel, "kind 2", () -> hotel.moreToSell(2, -1, 0));
        Check.noIndex(hotel, "kind -1", () -> hotel.moreToSell(-1, 0, 0));
        Check.noArgument(hotel, "odds -1", () -> hotel.moreToSell(0, -1, 0));
        Check.noArgument(hotel, "odds 1001", () -> hotel.moreToSell(0, 1001, 0));
        Check.noArgument(hotel, "risk -1", () -> hotel.moreToSell(0, 0, -1));
        Check.noArgument(hotel, "risk 1001", () -> hotel.moreToSell(0, 0, 1001));
        hotel.setExtra(1, 3);
        hotel.ask(1, 20240301, 1, 1, 0, 20240301);
        Check.same("neither extra nor stays matter", hotel.moreToSell(1, 500, 250), 1);
    }

    /** With 27 digits a rounded reckoning could miss these by one. */
    private static void promise37MoreToSellJustAtTheRisk() {
        HotelNights hotel = new HotelNights();
        hotel.addKind(6, 100);
        Check.same("999 to the power of 7 is above 0.993", hotel.moreToSell(2, 999, 993), 0);
        Check.same("and below 0.994", hotel.moreToSell(2, 999, 994), 1);
        Check.same("a tenth to the power of 7", hotel.moreToSell(2, 100, 1), 3);
        Check.same("nine stays, 500: 46 of 512 stay away", hotel.moreToSell(2, 500, 90), 3);
        Check.same("nine stays, 500: 46 of 512 stay away", hotel.moreToSell(2, 500, 89), 2);
    }
}
