/** Section 5: seasons, the weekend, and prices. */
final class Section05SeasonsTest {
    private Section05SeasonsTest() {
    }

    /** A hotel with a season that makes its nights half as dear again. */
    private static HotelNights withSeason(int from, int to) {
        HotelNights hotel = new HotelNights();
        hotel.addSeason(from, to, 50, 1);
        return hotel;
    }

    private static void nightsAreDear(HotelNights hotel, int... nights) {
        for (int night : nights) {
            Check.same("price of " + night, hotel.priceOf(0, night), 15000);
        }
    }

    private static void nightsArePlain(HotelNights hotel, int... nights) {
        for (int night : nights) {
            Check.same("price of " + night, hotel.priceOf(0, night), 10000);
        }
    }

    private static HotelNights withFourSeasons() {
        HotelNights hotel = new HotelNights();
        for (int i = 0; i < 4; i++) {
            hotel.addSeason(301, 302 + i, 10, 1);
        }
        return hotel;
    }

    private static void section05SeasonsAreNumberedFrom0() {
        HotelNights hotel = new HotelNights();
        for (int i = 0; i < 4; i++) {
            Check.same("season", hotel.addSeason(301, 302 + i, 10, 1), i);
        }
    }

    private static void section05ThereAreUpTo4Seasons() {
        Edges.noState(Section05SeasonsTest::withFourSeasons, "a fifth one", hotel -> hotel.addSeason(301, 302, 0, 1));
    }

    private static void section05BothDaysBelongToTheSeason() {
        HotelNights hotel = withSeason(410, 420);
        nightsArePlain(hotel, 20240409, 20240421);
        nightsAreDear(hotel, 20240410, 20240411, 20240419, 20240420);
    }

    private static void section05ASeasonIsThereInEachYear() {
        HotelNights hotel = withSeason(410, 420);
        nightsAreDear(hotel, 20000410, 20230415, 20990420);
    }

    private static void section05ASeasonOfOneDay() {
        HotelNights hotel = withSeason(410, 410);
        nightsArePlain(hotel, 20240409, 20240411, 20241231, 20240101);
        nightsAreDear(hotel, 20240410, 20250410);
    }

    private static void section05ASeasonOverTheEndOfTheYear() {
        HotelNights hotel = withSeason(1220, 106);
        nightsArePlain(hotel, 20241219, 20250107, 20240630);
        nightsAreDear(hotel, 20241220, 20241221, 20241231, 20250101, 20250105, 20250106);
    }

    private static void section05ASeasonFromTheLastDayToTheFirstOne() {
        HotelNights hotel = withSeason(1231, 101);
        nightsArePlain(hotel, 20241230, 20250102);
        nightsAreDear(hotel, 20241231, 20250101);
    }

    private static void section05ASeasonWithinAMonthOverTheEndOfTheYear() {
        HotelNights hotel = withSeason(311, 310);
        nightsAreDear(hotel, 20240310, 20240311, 20241231, 20250101);
        HotelNights other = withSeason(320, 310);
        nightsArePlain(other, 20240311, 20240319);
        nightsAreDear(other, 20240310, 20240320, 20241231, 20250101);
    }

    private static void section05ASeasonOfTheWholeYear() {
        HotelNights hotel = withSeason(101, 1231);
        nightsAreDear(hotel, 20240101, 20240229, 20240630, 20241231, 20000101, 20991231);
    }

    private static void section05ASeasonOfTheLeapDayAlone() {
        HotelNights hotel = withSeason(229, 229);
        nightsArePlain(hotel, 20240228, 20240301, 20250228, 20250301);
        nightsAreDear(hotel, 20240229, 20280229);
    }

    private static void section05ASeasonToTheLeapDay() {
        HotelNights hotel = withSeason(201, 229);
        nightsArePlain(hotel, 20240301, 20250301);
        nightsAreDear(hotel, 20240229, 20250228);
    }

    private static void section05ASeasonFromTheLeapDay() {
        HotelNights hotel = withSeason(229, 310);
        nightsArePlain(hotel, 20240228, 20250228, 20240311);
        nightsAreDear(hotel, 20240229, 20240301, 20250301);
    }

    private static void section05EachDayOfALeapYearIsTaken() {
        for (int month = 1; month <= 12; month++) {
            int last = month == 2 ? 29 : month == 4 || month == 6 || month == 9 || month == 11 ? 30 : 31;
            int first = month * 100 + 1;
            Check.same("month " + month, new HotelNights().addSeason(first, month * 100 + last, 0, 1), 0);
            Check.same("month " + month, new HotelNights().addSeason(month * 100 + last, first, 0, 1), 0);
            int behind = month * 100 + last + 1;
            Edges.noArgument(HotelNights::new, "from " + behind, hotel -> hotel.addSeason(behind, 101, 0, 1));
            Edges.noArgument(HotelNights::new, "to " + behind, hotel -> hotel.addSeason(101, behind, 0, 1));
            int ahead = month * 100;
            Edges.noArgument(HotelNights::new, "from " + ahead, hotel -> hotel.addSeason(ahead, 101, 0, 1));
            Edges.noArgument(HotelNights::new, "to " + ahead, hotel -> hotel.addSeason(101, ahead, 0, 1));
        }
    }

    private static void section05NumbersThatAreNoDaysOfAYear() {
        int[] numbers = {0, 1, 31, 1301, 9901, 10101, 20240301, -301, Integer.MIN_VALUE, Integer.MAX_VALUE};
        for (int number : numbers) {
            Edges.noArgument(HotelNights::new, "from " + number, hotel -> hotel.addSeason(number, 101, 0, 1));
            Edges.noArgument(HotelNights::new, "to " + number, hotel -> hotel.addSeason(101, number, 0, 1));
        }
    }

    private static void section05TheLeastAndTheGreatestPercentage() {
        HotelNights hotel = new HotelNights();
        hotel.addSeason(301, 301, -50, 1);
        hotel.addSeason(302, 302, 100, 1);
        Check.same("-50", hotel.priceOf(0, 20240301), 5000);
        Check.same("100", hotel.priceOf(0, 20240302), 20000);
    }

    private static void section05ALeastNumberOf1RefusesNothing() {
        HotelNights hotel = new HotelNights();
        hotel.addSeason(301, 331, 0, 1);
        Check.same("one night", Hotels.ask(hotel, 0, 20240301, 1), 0);
    }

    private static void section05ALeastNumberOf7() {
        HotelNights hotel = new HotelNights();
        hotel.addSeason(301, 331, 0, 7);
        Check.same("6 nights", Hotels.ask(hotel, 0, 20240301, 6), HotelNights.NONE);
        Check.same("7 nights", Hotels.ask(hotel, 0, 20240301, 7), 0);
    }

    private static void section05TheLeastNumberIsTheGreatestOfAllSeasons() {
        HotelNights hotel = new HotelNights();
        hotel.addSeason(301, 331, 0, 2);
        hotel.addSeason(301, 310, 0, 4);
        hotel.addSeason(301, 331, 0, 3);
        Check.same("3 nights", Hotels.ask(hotel, 0, 20240310, 3), HotelNights.NONE);
        Check.same("4 nights", Hotels.ask(hotel, 0, 20240310, 4), 0);
        Check.same("2 nights where the 4 are not", Hotels.ask(hotel, 0, 20240311, 2), HotelNights.NONE);
        Check.same("3 nights where the 4 are not", Hotels.ask(hotel, 0, 20240311, 3), 1);
    }

    private static void section05WithoutASeasonTheLeastNumberIs1() {
        HotelNights hotel = new HotelNights();
        hotel.addSeason(301, 331, 0, 7);
        Check.same("the night ahead", Hotels.ask(hotel, 0, 20240229, 1), 0);
        Check.same("the night behind", Hotels.ask(hotel, 0, 20240401, 1), 1);
    }

    private static void section05TheLeastNumberIsForTheFirstNightAlone() {
        HotelNights hotel = new HotelNights();
        hotel.addSeason(301, 331, 0, 7);
        Check.same("it begins ahead of the season", Hotels.ask(hotel, 0, 20240229, 2), 0);
        Check.same("it begins in it", Hotels.ask(hotel, 0, 20240331, 2), HotelNights.NONE);
    }

    private static void section05TheLeastNumberOfASeasonOverTheEndOfTheYear() {
        HotelNights hotel = new HotelNights();
        hotel.addSeason(1220, 106, 0, 2);
        int[] refused = {20241220, 20241231, 20250101, 20250106};
        for (int night : refused) {
            Check.same("one night from " + night, Hotels.ask(hotel, 0, night, 1), HotelNights.NONE);
        }
        Check.same("ahead of it", Hotels.ask(hotel, 0, 20241219, 1), 0);
        Check.same("behind it", Hotels.ask(hotel, 0, 20250107, 1), 1);
    }

    private static void section05TheWeekendIs0AtFirst() {
        nightsArePlain(new HotelNights(), 20240301, 20240302);
    }

    private static void section05TheWeekendIsFridayAndSaturday() {
        HotelNights hotel = new HotelNights();
        hotel.setWeekend(50, 0);
        nightsArePlain(hotel, 20240226, 20240227, 20240228, 20240229, 20240303, 20240304);
        nightsAreDear(hotel, 20240301, 20240302, 20240308, 20240309);
    }

    private static void section05TheGreatestPercentageOfTheWeekend() {
        HotelNights hotel = new HotelNights();
        hotel.setWeekend(100, 0);
        Check.same("Friday", hotel.priceOf(0, 20240301), 20000);
        Check.same("Sunday", hotel.priceOf(0, 20240303), 10000);
    }

    private static void section05ThePercentagesOfAllSeasonsAreAddedUp() {
        HotelNights hotel = new HotelNights();
        hotel.addSeason(301, 310, 20, 1);
        hotel.addSeason(305, 315, -30, 1);
        hotel.addSeason(301, 315, 5, 1);
        Check.same("the first and the third", hotel.priceOf(0, 20240304), 12500);
        Check.same("all of them", hotel.priceOf(0, 20240305), 9500);
        Check.same("the second and the third", hotel.priceOf(0, 20240311), 7500);
    }

    private static void section05SeasonWeekendAndCountAreAddedUp() {
        HotelNights hotel = new HotelNights();
        hotel.addSeason(301, 310, -20, 1);
        hotel.setWeekend(15, 0);
        hotel.group(0, 2, 20240301, 1, 20240301);
        Check.same("100 - 20 + 15 + 20", hotel.priceOf(0, 20240301), 11500);
    }

    private static void section05TheWholePartOfFourTimesTheShare() {
        HotelNights hotel = new HotelNights();
        hotel.setExtra(0, 3);
        int[] due = {10000, 11000, 12000, 14000, 15000, 16000, 18000};
        for (int taken = 0; taken < due.length; taken++) {
            Check.same("count " + taken, hotel.priceOf(0, 20240304), due[taken]);
            Hotels.ask(hotel, 0, 20240304, 1);
        }
    }

    private static void section05TheCountIsThatOfThisKindOnThisNight() {
        HotelNights hotel = new HotelNights();
        Hotels.ask(hotel, 1, 20240304, 1);
        Hotels.ask(hotel, 0, 20240305, 1);
        Check.same("nobody in this kind on this night", hotel.priceOf(0, 20240304), 10000);
        Check.same("the only room", hotel.priceOf(1, 20240304), 35000);
    }

    private static void section05ASumJustBelow0() {
        HotelNights hotel = new HotelNights();
        hotel.addSeason(301, 331, -50, 1);
        hotel.addSeason(301, 331, -50, 1);
        hotel.addSeason(301, 331, -1, 1);
        Check.same("-1", hotel.priceOf(0, 20240304), 0);
    }

    private static void section05ASumOf0() {
        HotelNights hotel = new HotelNights();
        hotel.addSeason(301, 331, -50, 1);
        hotel.addSeason(301, 331, -50, 1);
        Check.same("0", hotel.priceOf(0, 20240304), 0);
    }

    private static void section05ASumJustAbove0() {
        HotelNights hotel = new HotelNights();
        hotel.addSeason(301, 331, -50, 1);
        hotel.addSeason(301, 331, -49, 1);
        Check.same("1", hotel.priceOf(0, 20240304), 100);
    }

    private static void section05TheWholeSumIsBelow0NotAPartOfIt() {
        HotelNights hotel = new HotelNights();
        for (int i = 0; i < 4; i++) {
            hotel.addSeason(301, 331, -50, 1);
        }
        hotel.setWeekend(100, 0);
        Check.same("100 - 200", hotel.priceOf(1, 20240304), 0);
        Check.same("100 - 200 + 100", hotel.priceOf(1, 20240301), 0);
        Hotels.ask(hotel, 1, 20240301, 1);
        Check.same("100 - 200 + 100 + 40", hotel.priceOf(1, 20240301), 10000);
        Hotels.ask(hotel, 1, 20240304, 1);
        Check.same("100 - 200 + 40", hotel.priceOf(1, 20240304), 0);
    }

    private static void section05TheGreatestSum() {
        HotelNights hotel = new HotelNights();
        hotel.addKind(1, 100000);
        for (int i = 0; i < 4; i++) {
            hotel.addSeason(101, 1231, 100, 1);
        }
        hotel.setWeekend(100, 0);
        hotel.setExtra(2, 3);
        hotel.group(2, 4, 20240301, 14, 20240301);
        Check.same("100 + 400 + 100 + 160", hotel.priceOf(2, 20240301), 760000);
        Check.same("100 + 400 + 160", hotel.priceOf(2, 20240303), 660000);
        Check.same("the last stay", hotel.stayAt(3, 4), 14 * 620000 + 4 * 100000);
    }

    private static void section05ThePriceOfAStayIsAheadOfItsOwnCount() {
        HotelNights hotel = new HotelNights();
        int stay = Hotels.ask(hotel, 1, 20240304, 2);
        Check.same("its price", hotel.stayAt(stay, 4), 50000);
        Check.same("the price behind it", hotel.priceOf(1, 20240304), 35000);
    }

    private static void section05ThePriceOfAStayIsASumOverItsNights() {
        HotelNights hotel = new HotelNights();
        hotel.addSeason(305, 305, -50, 1);
        hotel.setWeekend(10, 0);
        Hotels.ask(hotel, 0, 20240304, 1);
        int stay = Hotels.ask(hotel, 0, 20240302, 4);
        Check.same("11000 + 10000 + 11000 + 5000", hotel.stayAt(stay, 4), 37000);
    }

    private static void section05EachNightHasThePriceAsItComesToTheStay() {
        HotelNights hotel = new HotelNights();
        Hotels.ask(hotel, 0, 20240304, 1);
        hotel.addSeason(301, 331, 50, 1);
        Check.same("the price of the stay is as it was", hotel.stayAt(0, 4), 10000);
        Check.same("a new night has the new one", hotel.longer(0, 1), 15000);
        Check.same("together", hotel.stayAt(0, 4), 25000);
        Check.same("the new night is left out", hotel.shorter(0, 1), 15000);
        Check.same("the rest", hotel.stayAt(0, 4), 10000);
    }

    private static void section05EachNightIsRoundedForItself() {
        HotelNights hotel = new HotelNights();
        hotel.addKind(1, 101);
        hotel.addSeason(301, 331, -50, 1);
        Check.same("twice 50.5", hotel.stayAt(Hotels.ask(hotel, 2, 20240304, 2), 4), 102);
    }
}
