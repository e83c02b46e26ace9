import java.util.ArrayList;
import java.util.List;
import java.util.function.Function;
import java.util.function.Supplier;

/** The last numbers that a call takes and the first ones that it does not, each on a hotel of its own. */
final class Edges {
    /** Beyond the years, the months and the days, and of another form. */
    static final int[] NO_DATES = {19991231, 19990615, 21000101, 20240015, 20241301, 20240100, 20240132, 20240230,
        20250229, 20240431, 20240631, 20240931, 20241131, 20241232, 20231232, 0, -1, -20240226, 202401, 2024226,
        202402260, Integer.MIN_VALUE, Integer.MAX_VALUE};
    private static final int MANY = 40;
    private static final int BEYOND_ALL_UNDO = 8;

    private Edges() {
    }

    interface Call {
        Object on(HotelNights hotel, int number);
    }

    /** The numbers from least to most are taken, those outside throw IllegalArgumentException. */
    static void range(Supplier<HotelNights> start, int least, int most, Call call) {
        takes(start, least, most, call);
        for (int number : new int[] {least - 1, most + 1, Integer.MIN_VALUE, Integer.MAX_VALUE}) {
            noArgument(start, "number " + number, hotel -> call.on(hotel, number));
        }
    }

    /** The numbers from 0 to size - 1 are taken, those outside throw IndexOutOfBoundsException. */
    static void indexes(Supplier<HotelNights> start, int size, Call call) {
        takes(start, 0, size - 1, call);
        for (int number : new int[] {-1, size, Integer.MIN_VALUE, Integer.MAX_VALUE}) {
            noIndex(start, "number " + number, hotel -> call.on(hotel, number));
        }
    }

    /** Numbers that are no dates throw IllegalArgumentException. */
    static void dates(Supplier<HotelNights> start, Call call) {
        for (int number : NO_DATES) {
            noArgument(start, "no date " + number, hotel -> call.on(hotel, number));
        }
    }

    private static void takes(Supplier<HotelNights> start, int least, int most, Call call) {
        int step = most - least > MANY ? most - least - 1 : 1;
        for (int number = least; number <= most; number += step) {
            takesOne(start.get(), number, call);
        }
        takesOne(start.get(), most, call);
    }

    private static void takesOne(HotelNights hotel, int number, Call call) {
        String got = "taken";
        try {
            call.on(hotel, number);
        } catch (RuntimeException e) {
            got = e.toString();
        }
        Check.same("number " + number, got, "taken");
    }

    static void noIndex(Supplier<HotelNights> start, String what, Function<HotelNights, ?> call) {
        refuses(start, IndexOutOfBoundsException.class, what, call);
    }

    static void noArgument(Supplier<HotelNights> start, String what, Function<HotelNights, ?> call) {
        refuses(start, IllegalArgumentException.class, what, call);
    }

    static void noState(Supplier<HotelNights> start, String what, Function<HotelNights, ?> call) {
        refuses(start, IllegalStateException.class, what, call);
    }

    /** The call throws this exception, and changes neither what can be seen nor what can be undone. */
    private static void refuses(Supplier<HotelNights> start, Class<? extends RuntimeException> due, String what,
            Function<HotelNights, ?> call) {
        HotelNights hotel = start.get();
        Check.refuses(hotel, due, what, () -> call.apply(hotel));
        Check.same(what + ": the states that undo brings back", states(hotel), states(start.get()));
    }

    /** What can be seen now, and behind each undo that there is. */
    static List<String> states(HotelNights hotel) {
        List<String> all = new ArrayList<>();
        all.add(Look.at(hotel));
        for (int i = 0; i < BEYOND_ALL_UNDO && hotel.undo() != HotelNights.NONE; i++) {
            all.add(Look.at(hotel));
        }
        return all;
    }
}
