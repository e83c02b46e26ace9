import java.util.function.Supplier;

/** Counts the answers that are as due and prints those that are not. */
final class Check {
    static int passed = 0;
    static int failed = 0;
    private static volatile String part = "";

    private Check() {
    }

    static void begin(String name) {
        part = name;
    }

    static String part() {
        return part;
    }

    static void same(String what, long got, long due) {
        note(got == due, what + " answered " + got + ", due is " + due);
    }

    static void same(String what, double got, double due) {
        note(got == due, what + " answered " + got + ", due is " + due);
    }

    static void same(String what, Object got, Object due) {
        note(due.equals(got), what + " answered " + got + ", due is " + due);
    }

    /** The call must throw just this exception, and change nothing that can be seen. */
    static void refuses(HotelNights hotel, Class<? extends RuntimeException> due, String what, Supplier<?> call) {
        String before = Look.at(hotel);
        String got;
        try {
            got = "answered " + call.get();
        } catch (RuntimeException e) {
            got = "threw " + e.getClass().getName();
        }
        note(got.equals("threw " + due.getName()), what + " " + got + ", due is " + due.getName());
        note(before.equals(Look.at(hotel)), what + " threw, but changed what can be seen");
    }

    static void noIndex(HotelNights hotel, String what, Supplier<?> call) {
        refuses(hotel, IndexOutOfBoundsException.class, what, call);
    }

    static void noArgument(HotelNights hotel, String what, Supplier<?> call) {
        refuses(hotel, IllegalArgumentException.class, what, call);
    }

    static void noState(HotelNights hotel, String what, Supplier<?> call) {
        refuses(hotel, IllegalStateException.class, what, call);
    }

    private static void note(boolean isRight, String text) {
        if (isRight) {
            passed++;
        } else {
            failed++;
            System.out.println(part + ": " + text);
        }
    }
}
