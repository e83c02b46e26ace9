import java.lang.reflect.InvocationTargetException;
import java.lang.reflect.Method;
import java.time.LocalDate;
import java.util.ArrayList;
import java.util.List;
import java.util.Map;
import java.util.Random;
import java.util.TreeMap;

/** Runs of calls, drawn from fixed seeds, on HotelNights and on the Model; each answer must be the same. */
final class RandomRunsTest {
    private static final int RUNS = 400;
    private static final int CALLS = 512;
    /** How often a call comes, its name, and what its arguments are. */
    private static final String[] CALLS_BY_WEIGHT = {
        "3 addKind rooms price", "12 closeNight kind night flag", "6 setExtra kind extra",
        "4 addSeason monthDay monthDay percentage least", "4 setWeekend percentage tax",
        "60 ask kind night nights adults children till", "12 group kind groupSize night nights till",
        "6 letGo group", "30 waitFor kind night nights adults children", "40 pay stay", "12 cancel stay",
        "14 longer stay nights", "14 shorter stay nights", "10 passes days", "8 setOdds sort price odds",
        "5 sell saleDays saleRooms", "10 offer price", "16 undo", "3 today", "2 dayOfWeek night",
        "4 addDays night many", "2 kinds", "8 count kind night", "6 greatest kind night night", "6 needed kind",
        "6 refusedNight", "40 stayAt stay what", "20 roomOf stay", "12 priceOf kind night", "8 refund stay",
        "12 book book", "4 waiting", "6 awaited saleDays saleRooms", "6 limit saleDays saleRooms", "6 saleAt what",
        "8 moreToSell kind permille permille", "8 minutes night", "8 rounds night", "6 monthNights month",
        "6 monthIncome month", "4 meanPrice", "4 share kind night", "6 checksum", "4 errors",
    };

    private final Random random;
    private final HotelNights hotel = new HotelNights();
    private final Model model = new Model();
    private final int window;
    private final boolean isWild;
    private final List<String> told = new ArrayList<>();
    private static final Map<String, Method[]> METHODS = new TreeMap<>();
    private static final List<String> DRAWN = new ArrayList<>();
    /** How often each call answered without an exception, over all runs. */
    static final Map<String, Integer> ANSWERED = new TreeMap<>();

    private RandomRunsTest(int seed) {
        random = new Random(seed);
        window = new int[] {2, 5, 12, 40}[seed % 4];
        isWild = seed % 5 == 0;
    }

    static void run() throws IllegalAccessException {
        Check.begin("random runs");
        for (String line : CALLS_BY_WEIGHT) {
            String[] words = line.split(" ");
            METHODS.put(words[1], new Method[] {find(HotelNights.class, words[1]), find(Model.class, words[1])});
            for (int i = 0; i < Integer.parseInt(words[0]); i++) {
                DRAWN.add(line);
            }
        }
        for (int seed = 0; seed < RUNS; seed++) {
            new RandomRunsTest(seed).compare(seed);
        }
        for (String name : METHODS.keySet()) {
            Check.same(name + " came often", ANSWERED.getOrDefault(name, 0) > 100, true);
        }
    }

    private static Method find(Class<?> type, String name) {
        for (Method method : type.getDeclaredMethods()) {
            if (method.getName().equals(name) && java.lang.reflect.Modifier.isPublic(method.getModifiers())) {
                return method;
            }
        }
        throw new IllegalStateException("no method " + name);
    }

    private void compare(int seed) throws IllegalAccessException {
        for (int i = 0; i < CALLS; i++) {
            String[] words = DRAWN.get(random.nextInt(DRAWN.size())).split(" ");
            Object[] arguments = new Object[words.length - 2];
            for (int k = 0; k < arguments.length; k++) {
                arguments[k] = words[k + 2].equals("flag") ? (Object) random.nextBoolean() : draw(words[k + 2]);
            }
            Method[] pair = METHODS.get(words[1]);
            String got = answer(pair[0], hotel, arguments);
            String due = answer(pair[1], model, arguments);
            told.add(words[1] + java.util.Arrays.toString(arguments) + " -> " + due);
            if (!got.startsWith("throws")) {
                ANSWERED.merge(words[1], 1, Integer::sum);
            }
            if (!got.equals(due)) {
                told.forEach(System.out::println);
            }
            Check.same("run " + seed + ", call " + i + ", " + words[1], got, due);
            if (!got.equals(due)) {
                return;
            }
        }
    }

    private static String answer(Method method, Object object, Object[] arguments) throws IllegalAccessException {
        try {
            return String.valueOf(method.invoke(object, arguments));
        } catch (InvocationTargetException e) {
            return "throws " + e.getCause().getClass().getName();
        }
    }

    private int between(int least, int most) {
        return least + random.nextInt(most - least + 1);
    }

    /** Mostly a number in range, now and then one just outside or far off. */
    private int near(int least, int most) {
        int chance = random.nextInt(isWild ? 12 : 60);
        if (chance == 0) {
            return random.nextBoolean() ? least - 1 : most + 1;
        }
        if (chance == 1) {
            return random.nextInt();
        }
        return between(least, most);
    }

    private int night() {
        int chance = random.nextInt(40);
        LocalDate today = Look.toDate(model.today());
        if (chance == 0) {
            return new int[] {20240230, 20230229, 20250431, 19991231, 21000101, 20241301, 20240100, 0, -20240301,
                Integer.MIN_VALUE, Integer.MAX_VALUE}[random.nextInt(11)];
        }
        int days = chance == 1 ? between(355, 402) : chance == 2 ? -between(1, 5) : between(0, window);
        return Look.toNumber(today.plusDays(days));
    }

    private int draw(String sort) {
        switch (sort) {
            case "rooms": return near(1, 6);
            case "price": return random.nextBoolean() ? near(0, 100000) : near(100, 400);
            case "kind": return near(0, random.nextInt(9) == 0 ? 2 : model.kinds() - 1);
            case "extra": return near(0, 3);
            case "night": return night();
            case "monthDay": return random.nextInt(8) == 0 ? near(0, 1300) : near(1, 12) * 100 + near(1, 28);
            case "percentage": return near(random.nextInt(3) == 0 ? 0 : -50, 100);
            case "least": return random.nextInt(3) == 0 ? near(1, 7) : near(1, 2);
            case "tax": return near(0, 1000);
            case "nights": return random.nextInt(4) == 0 ? near(1, 14) : near(1, 4);
            case "adults": return near(1, 4);
            case "children": return near(0, 4);
            case "till": return random.nextInt(3) == 0 ? night() : Look.toNumber(Look.toDate(model.today())
                    .plusDays(between(0, 2)));
            case "groupSize": return near(1, random.nextInt(3) == 0 ? 6 : 3);
            case "group": return near(0, random.nextInt(3) == 0 ? 9 : 2);
            case "stay": return near(0, Math.max(0, model.stays() - (random.nextInt(20) == 0 ? 0 : 1)));
            case "days": return near(1, random.nextInt(6) == 0 ? 31 : 3);
            case "sort": return near(0, 3);
            case "odds": return near(0, random.nextInt(4) == 0 ? 1000 : 300);
            case "saleDays": return near(0, 4);
            case "saleRooms": return near(0, 5);
            case "many": return random.nextBoolean() ? near(-1000, 1000) : near(-40, 40);
            case "what": return near(0, random.nextInt(3) == 0 ? 3 : 8);
            case "book": return near(0, 3);
            case "permille": return random.nextInt(3) == 0 ? near(0, 20) : near(0, 1000);
            case "month": return model.today() / 10000 * 100 + near(1, 12);
            default: throw new IllegalStateException("no sort " + sort);
        }
    }
}
