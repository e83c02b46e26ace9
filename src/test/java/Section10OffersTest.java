/** Section 10: offers, awaited income, limits, and sales. */
final class Section10OffersTest {
    private Section10OffersTest() {
    }

    private static void section10AllSortsHavePriceAndOdds0AtFirst() {
        HotelNights hotel = new HotelNights();
        Check.same("awaited", hotel.awaited(4, 5), 0);
        Check.same("odds together", hotel.setOdds(0, 0, 0), 0);
        for (int sort = 0; sort < 4; sort++) {
            hotel.setOdds(sort, 0, 250);
        }
        Check.same("offers of nothing", hotel.awaited(4, 5), 0);
    }

    private static void section10EachSortCounts() {
        for (int sort = 0; sort < 4; sort++) {
            HotelNights hotel = new HotelNights();
            hotel.setOdds(sort, 700, 300);
            Check.same("sort " + sort, hotel.awaited(1, 1), 210000);
        }
    }

    private static void section10TheOddsOfAllTogetherAreAtMost1000() {
        HotelNights hotel = new HotelNights();
        hotel.setOdds(0, 1, 400);
        hotel.setOdds(1, 1, 300);
        hotel.setOdds(2, 1, 200);
        Check.noArgument(hotel, "1001", () -> hotel.setOdds(3, 1, 101));
        Check.same("1000", hotel.setOdds(3, 1, 100), 1000);
    }

    private static void section10OddsOfOneSortAreTakenInPlaceOfItsOwn() {
        HotelNights hotel = new HotelNights();
        hotel.setOdds(0, 1, 600);
        Check.same("another 1000 in place of 600", hotel.setOdds(0, 1, 1000), 1000);
        Check.same("less", hotel.setOdds(0, 1, 1), 1);
    }

    private static void section10NoOfferAtAll() {
        HotelNights hotel = new HotelNights();
        hotel.setOdds(0, 100000, 0);
        Check.same("four days", hotel.awaited(4, 5), 0);
        Check.same("limit", hotel.limit(4, 1), 0);
    }

    private static void section10AnOfferOnEachDay() {
        HotelNights hotel = new HotelNights();
        hotel.setOdds(1, 100000, 1000);
        Check.same("one day", hotel.awaited(1, 1), 100000000L);
        Check.same("four days, five rooms", hotel.awaited(4, 5), 400000000000000000L);
        Check.same("limit of one room", hotel.limit(4, 1), 100000);
        Check.same("limit, as many rooms as days behind", hotel.limit(4, 3), 100000);
        Check.same("limit, more rooms than days behind", hotel.limit(4, 4), 0);
    }

    private static void section10NoDayIsLeft() {
        HotelNights hotel = Hotels.withTwoSorts();
        for (int rooms = 0; rooms <= 5; rooms++) {
            Check.same("no day, rooms " + rooms, hotel.awaited(0, rooms), 0);
        }
    }

    private static void section10NoRoomIsLeft() {
        HotelNights hotel = Hotels.withTwoSorts();
        for (int days = 0; days <= 4; days++) {
            Check.same("no room, days " + days, hotel.awaited(days, 0), 0);
        }
    }

    private static void section10TheGreaterOneOfLeavingAndTaking() {
        HotelNights hotel = Hotels.withTwoSorts();
        Check.same("0.5 x 10000 + 0.25 x 4000", hotel.awaited(1, 1), 6000000L);
        Check.same("0.5 x 10000 + 0.25 x 6000 + 0.25 x 6000", hotel.awaited(2, 1), 8000000000L);
    }

    /** Of two days and one room: each set of the sorts could be taken on the first day, and all on the last one. */
    private static void section10IncomeOfTheBestWayOfAllWays() {
        int[] prices = {10000, 3000, 6001, 4999};
        int[] odds = {100, 300, 250, 200};
        HotelNights hotel = new HotelNights();
        long lastDay = 0;
        for (int sort = 0; sort < 4; sort++) {
            hotel.setOdds(sort, prices[sort], odds[sort]);
            lastDay += (long) odds[sort] * prices[sort];
        }
        long best = 0;
        for (int taken = 0; taken < 16; taken++) {
            long income = 0;
            int left = 1000;
            for (int sort = 0; sort < 4; sort++) {
                if ((taken >> sort & 1) == 1) {
                    income += (long) odds[sort] * prices[sort] * 1000;
                    left -= odds[sort];
                }
            }
            best = Math.max(best, income + left * lastDay);
        }
        Check.same("one day", hotel.awaited(1, 1), lastDay);
        Check.same("two days, one room", hotel.awaited(2, 1), best);
        Check.same("two days, two rooms", hotel.awaited(2, 2), 2 * 1000 * lastDay);
    }

    private static void section10MoreRoomsThanDays() {
        HotelNights hotel = Hotels.withTwoSorts();
        Check.same("one day, two rooms", hotel.awaited(1, 2), 6000000L);
        Check.same("two days, three rooms", hotel.awaited(2, 3), hotel.awaited(2, 2));
        Check.same("four days, five rooms", hotel.awaited(4, 5), hotel.awaited(4, 4));
    }

    private static void section10TheLimitOfTheLastDayIs0() {
        HotelNights hotel = Hotels.withTwoSorts();
        for (int rooms = 1; rooms <= 4; rooms++) {
            Check.same("rooms " + rooms, hotel.limit(1, rooms), 0);
        }
    }

    private static void section10TheLimitIsAWholeWorth() {
        HotelNights hotel = new HotelNights();
        hotel.setOdds(0, 1000, 500);
        Check.same("500", hotel.limit(2, 1), 500);
    }

    private static void section10TheLimitIsTheLeastWholeNumberNotLessThanTheWorth() {
        HotelNights hotel = new HotelNights();
        hotel.setOdds(0, 1001, 500);
        Check.same("500.5", hotel.limit(2, 1), 501);
        hotel.setOdds(0, 1, 1);
        Check.same("0.001", hotel.limit(2, 1), 1);
        hotel.setOdds(0, 1000, 999);
        Check.same("999", hotel.limit(2, 1), 999);
        Check.same("999.999", hotel.limit(3, 1), 1000);
    }

    private static void section10TheLimitOfOneRoom() {
        HotelNights hotel = Hotels.withTwoSorts();
        Check.same("less the income of no room", hotel.limit(2, 1), 6000);
        Check.same("two rooms, a day behind today", hotel.limit(2, 2), 0);
        Check.same("two rooms, two days behind today", hotel.limit(3, 2), 4000);
    }

    private static void section10AnOfferUsesADayAlsoIfItIsNotTaken() {
        HotelNights hotel = Hotels.withTwoSorts();
        hotel.sell(2, 1);
        Check.same("not taken", hotel.offer(5999), HotelNights.NONE);
        Check.same("days", hotel.saleAt(0), 1);
        Check.same("rooms", hotel.saleAt(1), 1);
        Check.same("income", hotel.saleAt(2), 0);
    }

    private static void section10AnOfferAtTheLimitIsTaken() {
        HotelNights hotel = Hotels.withTwoSorts();
        hotel.sell(2, 1);
        Check.same("taken", hotel.offer(6000), 6000);
        Check.same("days", hotel.saleAt(0), 1);
        Check.same("rooms", hotel.saleAt(1), 0);
        Check.same("income", hotel.saleAt(2), 6000);
    }

    private static void section10AnOfferOf0IsTakenAtALimitOf0() {
        HotelNights hotel = new HotelNights();
        Check.same("limit", hotel.sell(1, 1), 0);
        Check.same("income", hotel.offer(0), 0);
        Check.same("rooms", hotel.saleAt(1), 0);
    }

    private static void section10WithoutARoomNoOfferIsTaken() {
        HotelNights hotel = new HotelNights();
        hotel.sell(2, 1);
        hotel.offer(1);
        Check.same("no room", hotel.offer(100000), HotelNights.NONE);
        Check.same("days", hotel.saleAt(0), 0);
        Check.same("rooms", hotel.saleAt(1), 0);
        Check.same("income", hotel.saleAt(2), 1);
    }

    private static void section10TheLimitIsThatOfTheDaysAndRoomsThatAreLeft() {
        HotelNights hotel = Hotels.withTwoSorts();
        Check.same("three days, two rooms", hotel.sell(3, 2), 4000);
        Check.same("at it", hotel.offer(4000), 4000);
        Check.same("two days, one room: 6000", hotel.offer(5999), HotelNights.NONE);
        Check.same("the last day: 0", hotel.offer(1), 4001);
    }

    private static void section10TheBestInHindsightWithoutAnOffer() {
        HotelNights hotel = new HotelNights();
        hotel.sell(4, 4);
        Check.same("best", hotel.saleAt(3), 0);
    }

    private static void section10TheBestInHindsightOfFewerOffersThanRooms() {
        HotelNights hotel = new HotelNights();
        hotel.sell(4, 4);
        hotel.offer(7);
        hotel.offer(5);
        Check.same("best", hotel.saleAt(3), 12);
    }

    private static void section10TheBestInHindsightOfMoreOffersThanRooms() {
        HotelNights hotel = new HotelNights();
        hotel.sell(4, 2);
        int[] offers = {3, 9, 5, 7};
        int[] best = {3, 12, 14, 16};
        for (int i = 0; i < 4; i++) {
            hotel.offer(offers[i]);
            Check.same("best behind " + offers[i], hotel.saleAt(3), best[i]);
        }
    }

    private static void section10TheBestInHindsightIsOfTheRoomsAtItsBeginning() {
        HotelNights hotel = new HotelNights();
        hotel.sell(4, 1);
        hotel.offer(3);
        Check.same("the room is used", hotel.saleAt(1), 0);
        hotel.offer(9);
        Check.same("the greatest one", hotel.saleAt(3), 9);
    }

    private static void section10TheBestInHindsightOfEqualPrices() {
        HotelNights hotel = new HotelNights();
        hotel.sell(4, 3);
        for (int i = 0; i < 4; i++) {
            hotel.offer(100000);
        }
        Check.same("best", hotel.saleAt(3), 300000);
    }

    private static void section10ASaleOfEachSize() {
        for (int days = 1; days <= 4; days++) {
            for (int rooms = 1; rooms <= 4; rooms++) {
                HotelNights hotel = Hotels.withTwoSorts();
                Check.same("first limit", hotel.sell(days, rooms), hotel.limit(days, rooms));
                for (int i = 0; i < days; i++) {
                    hotel.offer(10000);
                }
                String what = days + " days, " + rooms + " rooms";
                Check.same(what + ", days left", hotel.saleAt(0), 0);
                Check.same(what + ", rooms left", hotel.saleAt(1), Math.max(0, rooms - days));
                Check.same(what + ", income", hotel.saleAt(2), 10000 * Math.min(days, rooms));
                Check.same(what + ", best", hotel.saleAt(3), 10000 * Math.min(days, rooms));
            }
        }
    }
}
