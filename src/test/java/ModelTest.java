import java.lang.reflect.Method;
import java.lang.reflect.Modifier;
import java.util.ArrayList;
import java.util.Arrays;
import java.util.Comparator;
import java.util.List;
import java.util.Random;

/** Runs of drawn calls (always the same), each answer held against the model's. */
public final class ModelTest {
    private static final int RUNS = 3000, CALLS = 512;
    private static final String[] DEAR = {"plan", "colds", "lozenges"};

    private final Checks checks = new Checks();
    private final List<Method> ofHill = new ArrayList<>();
    private final List<Method> ofModel = new ArrayList<>();
    private final Random random = new Random(20261118);
    private HoarseHill hill;
    private HillModel model;
    private List<String> told;
    private int calls;

    public static void main(String[] args) throws Exception {
        new ModelTest().all();
    }

    private void all() throws Exception {
        for (Method method : HoarseHill.class.getDeclaredMethods()) {
            if (Modifier.isPublic(method.getModifiers())) {
                ofHill.add(method);
            }
        }
        ofHill.sort(Comparator.comparing(Method::getName));
        checks.due("how many methods the face has", ofHill.size(), 34);
        for (Method method : ofHill) {
            ofModel.add(HillModel.class.getDeclaredMethod(method.getName(), method.getParameterTypes()));
        }
        for (int run = 0; run < RUNS && !checks.anyFailed(); run++) {
            oneRun(run);
        }
        checks.end();
    }

    private void oneRun(int run) throws Exception {
        hill = new HoarseHill();
        model = new HillModel();
        told = new ArrayList<>();
        calls = 0;
        if (run % 10 != 0) {
            feed(text());
            call("hill");
        }
        while (calls < CALLS && !checks.anyFailed()) {
            int what = random.nextInt(100);
            if (what < 3) {
                feed(random.nextInt(3) == 0 ? spoilt(text()) : text());
                call("hill");
                call("fault");
            } else if (what < 9) {
                tellRow();
            } else if (what < 25) {
                speakAble();
            } else {
                any();
            }
        }
    }

    private void any() throws Exception {
        int i = random.nextInt(ofHill.size());
        Method method = ofHill.get(i);
        String name = method.getName();
        if (Arrays.asList(DEAR).contains(name) && random.nextInt(6) != 0) {
            return;
        }
        int[] arguments = new int[method.getParameterCount()];
        for (int k = 0; k < arguments.length; k++) {
            arguments[k] = number();
        }
        if (name.equals("drawn") && random.nextInt(3) != 0) {
            arguments[0] = random.nextInt(61);
            arguments[1] = 1 + random.nextInt(999999);
        }
        if ((name.equals("later") || name.equals("carried")) && random.nextBoolean()) {
            arguments[arguments.length - 1] = random.nextInt(42);
        }
        if (name.equals("feed") && random.nextInt(4) != 0) {
            arguments[0] = "hm0123456789,;pldirx ".charAt(random.nextInt(21));
        }
        call(name, arguments);
    }

    private int number() {
        switch (random.nextInt(40)) {
            case 0:
                return Integer.MAX_VALUE;
            case 1:
                return Integer.MIN_VALUE;
            case 2:
                return random.nextInt();
            case 3:
                return -1 - random.nextInt(3);
            case 4:
            case 5:
            case 6:
                return random.nextInt(45);
            case 7:
                return random.nextInt(105);
            case 8:
            case 9:
            case 10:
            case 11:
                return random.nextInt(17);
            case 12:
                return -1;
            default:
                return random.nextInt(5);
        }
    }

    /** A row of what was carried, as a hill like this one would tell it, so that something fits. */
    private void tellRow() throws Exception {
        int row = random.nextInt(3);
        int days = 1 + random.nextInt(14);
        call("row", row, random.nextInt(3), days + random.nextInt(3));
        int before = 0;
        for (int d = 1; d <= days; d++) {
            int sum = model.carried(d);
            call("set", row, d - 1, random.nextInt(25) == 0 ? random.nextInt(3) : sum - before);
            before = sum;
        }
        call("fits", random.nextInt(4), row, 0, days, random.nextInt(2));
        call("fits", random.nextInt(4), row, 0, random.nextInt(days) + 1, random.nextInt(2));
        call("costs", row, 0, days);
        call("status");
    }

    private void speakAble() throws Exception {
        call("speak", model.count(5) & (random.nextBoolean() ? 15 : random.nextInt(16)));
    }

    private String text() {
        StringBuilder text = new StringBuilder("h" + (1 + random.nextInt(9)) + ";");
        for (int m = 1 + random.nextInt(4); m > 0; m--) {
            text.append("m").append(random.nextInt(random.nextBoolean() ? 100 : 40)).append(";");
        }
        for (int m = random.nextInt(12) == 0 ? 0 : 1 + random.nextInt(4); m > 0; m--) {
            text.append("pldir".charAt(random.nextInt(5))).append(random.nextInt(21)).append(",")
                .append(random.nextInt(10)).append(";");
        }
        return text.toString();
    }

    private String spoilt(String text) {
        StringBuilder spoilt = new StringBuilder(text);
        for (int times = 1 + random.nextInt(2); times > 0; times--) {
            int at = random.nextInt(spoilt.length());
            String letter = String.valueOf("hm0123456789,;pldirx \u00e9".charAt(random.nextInt(22)));
            switch (random.nextInt(4)) {
                case 0:
                    spoilt.insert(at, letter);
                    break;
                case 1:
                    spoilt.replace(at, at + 1, letter);
                    break;
                case 2:
                    spoilt.insert(at, random.nextBoolean() ? "m5;" : "p5,5;");
                    break;
                default:
                    spoilt.setLength(Math.max(1, at));
                    break;
            }
        }
        return spoilt.toString();
    }

    private void feed(String text) throws Exception {
        for (char letter : text.toCharArray()) {
            call("feed", letter);
        }
    }

    private void call(String name, int... arguments) throws Exception {
        calls++;
        Object[] boxed = Arrays.stream(arguments).boxed().toArray();
        for (int i = 0; i < ofHill.size(); i++) {
            if (ofHill.get(i).getName().equals(name)) {
                String call = name + Arrays.toString(arguments);
                int got = (Integer) ofHill.get(i).invoke(hill, boxed);
                int want = (Integer) ofModel.get(i).invoke(model, boxed);
                told.add(call + " = " + got);
                if (got != want) {
                    told.forEach(System.out::println);
                }
                checks.due(call, got, want);
            }
        }
    }
}
