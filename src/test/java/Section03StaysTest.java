/** Section 3: stays, what is refused, and stays that are made longer or shorter. */
final class Section03StaysTest {
    private static final int NONE = HotelNights.NONE;

    private Section03StaysTest() {
    }

    private static void section03AStayOf1Night() {
        HotelNights hotel = new HotelNights();
        int stay = Hotels.ask(hotel, 0, 20240301, 1);
        Check.same("nights", hotel.stayAt(stay, 3), 1);
        Check.same("the night", hotel.count(0, 20240301), 1);
        Check.same("the one behind it", hotel.count(0, 20240302), 0);
    }

    private static void section03AStayOf14Nights() {
        HotelNights hotel = new HotelNights();
        int stay = Hotels.ask(hotel, 0, 20240301, 14);
        Check.same("nights", hotel.stayAt(stay, 3), 14);
        Check.same("the last night", hotel.count(0, 20240314), 1);
        Check.same("the one behind it", hotel.count(0, 20240315), 0);
    }

    private static void section03TheFewestPersons() {
        HotelNights hotel = new HotelNights();
        hotel.setWeekend(0, 100);
        Check.same("one adult", hotel.stayAt(hotel.ask(0, 20240301, 1, 1, 0, 20240301), 6), 100);
    }

    private static void section03TheMostPersons() {
        HotelNights hotel = new HotelNights();
        hotel.setWeekend(0, 100);
        Check.same("4 and 4", hotel.stayAt(hotel.ask(0, 20240301, 1, 4, 4, 20240301), 6), 600);
    }

    private static void section03StaysAreNumberedInTheOrderInWhichTheyAreMade() {
        HotelNights hotel = new HotelNights();
        Check.same("asked for", Hotels.ask(hotel, 0, 20240310, 1), 0);
        Check.same("of another kind", Hotels.ask(hotel, 1, 20240226, 1), 1);
        Check.same("refused", Hotels.ask(hotel, 1, 20240226, 1), NONE);
        hotel.group(0, 2, 20240301, 1, 20240301);
        Check.same("first one of the group", hotel.stayAt(2, 7), 0);
        Check.same("second one of the group", hotel.stayAt(3, 7), 0);
        hotel.waitFor(0, 20240305, 2, 1, 0);
        hotel.setExtra(0, 0);
        Check.same("the guest's", hotel.stayAt(4, 2), 20240305);
        Check.same("the next one", Hotels.ask(hotel, 0, 20240227, 1), 5);
    }

    private static void section03TheSixtiethStay() {
        HotelNights hotel = Hotels.withStays(59);
        Check.same("its number", Hotels.ask(hotel, 1, 20240301, 1), 59);
        Check.same("its kind", hotel.stayAt(59, 1), 1);
    }

    private static void section03NoStayBehindTheSixtieth() {
        Edges.noState(() -> Hotels.withStays(60), "ask", hotel -> hotel.ask(1, 20240301, 1, 1, 0, 20240301));
    }

    private static void section03StaysThatAreNotAliveCountAmongTheSixty() {
        HotelNights hotel = Hotels.withStays(60);
        hotel.cancel(0);
        Check.noState(hotel, "ask", () -> hotel.ask(1, 20240301, 1, 1, 0, 20240301));
    }

    private static void section03AHeldStayCounts() {
        HotelNights hotel = new HotelNights();
        Hotels.ask(hotel, 0, 20240301, 2);
        Check.same("state", hotel.stayAt(0, 0), HotelNights.HELD);
        Check.same("count", hotel.count(0, 20240302), 1);
    }

    private static void section03APaidStayCounts() {
        HotelNights hotel = new HotelNights();
        Hotels.paid(hotel, 0, 20240301, 2);
        Check.same("state", hotel.stayAt(0, 0), HotelNights.PAID);
        Check.same("count", hotel.count(0, 20240302), 1);
    }

    private static void section03ACancelledStayDoesNotCount() {
        HotelNights hotel = Hotels.withOneCancelled();
        Check.same("state", hotel.stayAt(0, 0), HotelNights.CANCELLED);
        Check.same("count", hotel.count(0, 20240301), 0);
    }

    private static void section03AStayThatIsSentAwayDoesNotCount() {
        HotelNights hotel = Hotels.withOneSentAway();
        Check.same("state", hotel.stayAt(0, 0), HotelNights.SENT);
        Check.same("count with the other one", hotel.count(1, 20240228), 1);
        Check.same("count of its last night", hotel.count(1, 20240229), 0);
    }

    private static void section03AStayThatIsOverDoesNotCount() {
        HotelNights hotel = Hotels.withOneOver();
        Check.same("state", hotel.stayAt(0, 0), HotelNights.OVER);
        Check.same("count", hotel.count(0, 20240227), 0);
    }

    private static void section03ACountJustBelowTheLimitCanBeHad() {
        HotelNights hotel = new HotelNights();
        hotel.group(0, 2, 20240301, 1, 20240301);
        Check.same("the third one", Hotels.ask(hotel, 0, 20240301, 1), 2);
        Check.same("refused night", hotel.refusedNight(), 0);
    }

    private static void section03ACountAtTheLimitCannotBeHad() {
        HotelNights hotel = new HotelNights();
        hotel.group(0, 3, 20240301, 1, 20240301);
        Check.same("the fourth one", Hotels.ask(hotel, 0, 20240301, 1), NONE);
        Check.same("refused night", hotel.refusedNight(), 20240301);
    }

    private static void section03ACountAboveTheLimitCannotBeHad() {
        HotelNights hotel = new HotelNights();
        hotel.setExtra(1, 3);
        hotel.group(1, 4, 20240301, 1, 20240301);
        hotel.setExtra(1, 1);
        Check.same("a fifth one", Hotels.ask(hotel, 1, 20240301, 1), NONE);
    }

    private static void section03AClosedNightCannotBeHad() {
        HotelNights hotel = new HotelNights();
        hotel.closeNight(0, 20240303, true);
        for (int first = 20240301; first <= 20240303; first++) {
            Check.same("from " + first, Hotels.ask(hotel, 0, first, 3), NONE);
            Check.same("refused night", hotel.refusedNight(), 20240303);
        }
    }

    private static void section03ClosedNightsAroundAStayDoNotMatter() {
        HotelNights hotel = new HotelNights();
        hotel.closeNight(0, 20240301, true);
        hotel.closeNight(0, 20240304, true);
        Check.same("between them", Hotels.ask(hotel, 0, 20240302, 2), 0);
    }

    private static void section03TheRefusedNightIsTheFirstOneThatCannotBeHad() {
        HotelNights hotel = new HotelNights();
        hotel.group(0, 3, 20240303, 1, 20240301);
        hotel.closeNight(0, 20240305, true);
        Hotels.ask(hotel, 0, 20240301, 6);
        Check.same("the full one is first", hotel.refusedNight(), 20240303);
        hotel.closeNight(0, 20240302, true);
        Hotels.ask(hotel, 0, 20240301, 6);
        Check.same("the closed one is first", hotel.refusedNight(), 20240302);
        Hotels.ask(hotel, 0, 20240304, 6);
        Check.same("behind both", hotel.refusedNight(), 20240305);
    }

    private static void section03TheFirstNightIsTodayAtTheEarliest() {
        HotelNights hotel = new HotelNights();
        hotel.passes(1);
        Check.same("today", Hotels.ask(hotel, 0, 20240227, 1), 0);
        Check.noArgument(hotel, "yesterday", () -> hotel.ask(0, 20240226, 1, 1, 0, 20240226));
        Check.noArgument(hotel, "from yesterday to today", () -> hotel.ask(0, 20240226, 2, 1, 0, 20240226));
    }

    private static void section03TheLastNightIsAtMost365DaysBehindToday() {
        HotelNights hotel = new HotelNights();
        Check.same("365 days", Hotels.ask(hotel, 0, 20250225, 1), 0);
        Check.same("14 nights, the last one 365 days", Hotels.ask(hotel, 0, 20250212, 14), 1);
        Check.noArgument(hotel, "366 days", () -> hotel.ask(0, 20250226, 1, 1, 0, 20240226));
        Check.noArgument(hotel, "2 nights, the last one 366 days", () -> hotel.ask(0, 20250225, 2, 1, 0, 20240226));
        Check.noArgument(hotel, "14 nights, 366 days", () -> hotel.ask(0, 20250213, 14, 1, 0, 20240226));
    }

    private static void section03TheLastNightInAYearWithoutALeapDay() {
        HotelNights hotel = new HotelNights();
        hotel.passes(4);
        Check.same("a year behind 20240301", Hotels.ask(hotel, 0, 20250301, 1), 0);
        Check.noArgument(hotel, "366 days", () -> hotel.ask(0, 20250302, 1, 1, 0, 20240301));
    }

    private static void section03TheLastNightIsNotBehind20991231() {
        HotelNights hotel = Hotels.atTheEndOfTheYears();
        Check.noArgument(hotel, "a night behind", () -> hotel.ask(0, 20991231, 2, 1, 0, 20991201));
        Check.noArgument(hotel, "13 nights behind", () -> hotel.ask(0, 20991231, 14, 1, 0, 20991201));
        Check.same("the last one", hotel.ask(0, 20991231, 1, 1, 0, 20991231), 0);
        Check.same("14 nights", hotel.ask(0, 20991218, 14, 1, 0, 20991201), 1);
        Check.noArgument(hotel, "waitFor", () -> hotel.waitFor(0, 20991231, 2, 1, 0));
        Check.noArgument(hotel, "group", () -> hotel.group(0, 1, 20991231, 2, 20991201));
        Check.noArgument(hotel, "longer", () -> hotel.longer(0, 1));
    }

    private static void section03SoItIsWithWaitingGuests() {
        HotelNights hotel = new HotelNights();
        hotel.passes(1);
        Check.same("today", hotel.waitFor(0, 20240227, 1, 1, 0), 1);
        Check.same("365 days", hotel.waitFor(0, 20250226, 1, 1, 0), 2);
        Check.same("14 nights", hotel.waitFor(0, 20250213, 14, 1, 0), 3);
        Check.noArgument(hotel, "yesterday", () -> hotel.waitFor(0, 20240226, 1, 1, 0));
        Check.noArgument(hotel, "366 days", () -> hotel.waitFor(0, 20250227, 1, 1, 0));
        Check.noArgument(hotel, "14 nights, 366 days", () -> hotel.waitFor(0, 20250214, 14, 1, 0));
    }

    private static void section03SoItIsWithGroups() {
        HotelNights hotel = new HotelNights();
        hotel.passes(1);
        Check.same("today", hotel.group(0, 1, 20240227, 1, 20240227), 0);
        Check.same("365 days", hotel.group(0, 1, 20250226, 1, 20240227), 1);
        Check.same("14 nights", hotel.group(0, 1, 20250213, 14, 20240227), 2);
        Check.noArgument(hotel, "yesterday", () -> hotel.group(0, 1, 20240226, 1, 20240226));
        Check.noArgument(hotel, "366 days", () -> hotel.group(0, 1, 20250227, 1, 20240227));
        Check.noArgument(hotel, "14 nights, 366 days", () -> hotel.group(0, 1, 20250214, 14, 20240227));
    }

    private static void section03SoItIsWithLongerStays() {
        HotelNights hotel = new HotelNights();
        Hotels.ask(hotel, 0, 20250223, 1);
        Check.noArgument(hotel, "366 days", () -> hotel.longer(0, 3));
        Check.same("365 days", hotel.longer(0, 2), 20000);
        Check.noArgument(hotel, "one more", () -> hotel.longer(0, 1));
        hotel.passes(1);
        Hotels.ask(hotel, 0, 20250223, 3);
        Check.same("a day on", hotel.longer(1, 1), 10000);
    }

    private static void section03FewerNightsThanTheLeastNumberAreRefused() {
        HotelNights hotel = new HotelNights();
        hotel.addSeason(301, 331, 0, 3);
        Check.same("two nights", Hotels.ask(hotel, 0, 20240301, 2), NONE);
        Check.same("the refused night is its first one", hotel.refusedNight(), 20240301);
        Check.same("one night", Hotels.ask(hotel, 0, 20240331, 1), NONE);
        Check.same("the refused night is its first one", hotel.refusedNight(), 20240331);
    }

    private static void section03AsManyNightsAsTheLeastNumberAreNotRefused() {
        HotelNights hotel = new HotelNights();
        hotel.addSeason(301, 331, 0, 3);
        Check.same("three nights", Hotels.ask(hotel, 0, 20240301, 3), 0);
        Check.same("refused night", hotel.refusedNight(), 0);
    }

    private static void section03NightsThatCannotBeHadComeAheadOfTheLeastNumber() {
        HotelNights hotel = new HotelNights();
        hotel.addSeason(301, 331, 0, 3);
        hotel.closeNight(0, 20240302, true);
        Check.same("refused", Hotels.ask(hotel, 0, 20240301, 2), NONE);
        Check.same("the night that cannot be had", hotel.refusedNight(), 20240302);
    }

    private static void section03AStayIsHeldTillItsFirstNightAtMost() {
        HotelNights hotel = new HotelNights();
        Check.same("till its first night", hotel.ask(0, 20240301, 3, 1, 0, 20240301), 0);
        Check.same("state", hotel.stayAt(0, 0), HotelNights.HELD);
        Check.same("till", hotel.stayAt(0, 8), 20240301);
        Check.noArgument(hotel, "a day behind", () -> hotel.ask(0, 20240301, 3, 1, 0, 20240302));
    }

    private static void section03LongerNightsAreAddedBehindTheLastOne() {
        HotelNights hotel = new HotelNights();
        Hotels.ask(hotel, 0, 20240228, 2);
        hotel.longer(0, 1);
        Check.same("the night ahead of the first", hotel.count(0, 20240227), 0);
        Check.same("the first", hotel.stayAt(0, 2), 20240228);
        Check.same("the new one", hotel.count(0, 20240301), 1);
        Check.same("the one behind it", hotel.count(0, 20240302), 0);
    }

    private static void section03LongerTheNewNightsMustBeHad() {
        HotelNights hotel = new HotelNights();
        Hotels.ask(hotel, 1, 20240301, 2);
        Hotels.ask(hotel, 1, 20240304, 1);
        Check.same("the first one can, the second one can't", hotel.longer(0, 2), NONE);
        Check.same("refused night", hotel.refusedNight(), 20240304);
        Check.same("no night was added", hotel.stayAt(0, 3), 2);
        Check.same("the one that can", hotel.longer(0, 1), 25000);
        hotel.closeNight(0, 20240302, true);
        Hotels.ask(hotel, 0, 20240301, 1);
        Check.same("closed", hotel.longer(2, 1), NONE);
        Check.same("refused night", hotel.refusedNight(), 20240302);
    }

    private static void section03LongerTheOldNightsNeedNotBeHad() {
        HotelNights hotel = new HotelNights();
        Hotels.ask(hotel, 1, 20240301, 2);
        hotel.closeNight(1, 20240301, true);
        hotel.closeNight(1, 20240302, true);
        Check.same("full and closed", hotel.longer(0, 1), 25000);
    }

    private static void section03LongerUpTo14Nights() {
        HotelNights hotel = new HotelNights();
        Hotels.ask(hotel, 0, 20240301, 13);
        Check.noArgument(hotel, "15 nights", () -> hotel.longer(0, 2));
        Check.same("14 nights", hotel.longer(0, 1), 10000);
        Check.noArgument(hotel, "one more", () -> hotel.longer(0, 1));
        Check.same("nights", hotel.stayAt(0, 3), 14);
    }

    private static void section03ShorterItsLastNightsAreLeftOut() {
        HotelNights hotel = new HotelNights();
        Hotels.ask(hotel, 0, 20240301, 4);
        hotel.shorter(0, 2);
        Check.same("first night", hotel.stayAt(0, 2), 20240301);
        Check.same("second night", hotel.count(0, 20240302), 1);
        Check.same("third night", hotel.count(0, 20240303), 0);
    }

    private static void section03ShorterAtLeastOneNightStays() {
        HotelNights hotel = new HotelNights();
        Hotels.ask(hotel, 0, 20240301, 3);
        Check.noArgument(hotel, "all three", () -> hotel.shorter(0, 3));
        Check.same("two", hotel.shorter(0, 2), 20000);
        Check.noArgument(hotel, "the last one", () -> hotel.shorter(0, 1));
        Check.same("nights", hotel.stayAt(0, 3), 1);
    }

    private static void section03ShorterNoNightAheadOfTodayIsLeftOut() {
        HotelNights hotel = new HotelNights();
        Hotels.paid(hotel, 0, 20240226, 4);
        hotel.passes(2);
        Check.noArgument(hotel, "yesterday's", () -> hotel.shorter(0, 3));
        Check.same("today's", hotel.shorter(0, 2), 20000);
        Check.same("nights", hotel.stayAt(0, 3), 2);
    }

    private static void section03ACancelledStayIsNotMadeLongerOrShorter() {
        Edges.noState(Hotels::withOneCancelled, "longer", hotel -> hotel.longer(0, 1));
        Edges.noState(Hotels::withOneCancelled, "shorter", hotel -> hotel.shorter(0, 1));
    }

    private static void section03AStayThatIsSentAwayIsNotMadeLongerOrShorter() {
        Edges.noState(Hotels::withOneSentAway, "longer", hotel -> hotel.longer(0, 1));
        Edges.noState(Hotels::withOneSentAway, "shorter", hotel -> hotel.shorter(0, 1));
    }

    private static void section03AStayThatIsOverIsNotMadeLongerOrShorter() {
        Edges.noState(Hotels::withOneOver, "longer", hotel -> hotel.longer(0, 1));
        Edges.noArgument(Hotels::withOneOver, "shorter, of nights ahead of today", hotel -> hotel.shorter(0, 1));
    }

    private static void section03TheDepositStaysAsItIs() {
        HotelNights hotel = new HotelNights();
        Hotels.paid(hotel, 0, 20240301, 3);
        hotel.longer(0, 2);
        Check.same("longer", hotel.stayAt(0, 5), 6000);
        hotel.shorter(0, 4);
        Check.same("shorter", hotel.stayAt(0, 5), 6000);
        Check.same("in the books", hotel.book(HotelNights.DEPOSITS), 6000);
    }
}
