import java.util.ArrayDeque;
import java.util.ArrayList;
import java.util.Comparator;
import java.util.Deque;
import java.util.HashSet;
import java.util.List;
import java.util.NoSuchElementException;
import java.util.Set;
import java.util.TreeMap;
import java.util.function.IntSupplier;
import java.util.regex.Matcher;
import java.util.regex.Pattern;

/** The document once more, with the whole Java library, to compare IceBells with on long runs of calls. */
final class Model {
    private record Layer(int thickness, int temperature, int strain) {
        Layer at(int newTemperature) {
            return new Layer(thickness, newTemperature, strain);
        }

        Layer strained(int newStrain) {
            return new Layer(thickness, temperature, newStrain);
        }

        int pitch() {
            return 100 / thickness - temperature;
        }
    }

    private record Peal(char kind, int lake, int pitch, int hour) {
    }

    private static final class State {
        List<Integer> depths = new ArrayList<>();
        List<List<Layer>> ice = new ArrayList<>();
        List<Integer> cracks = new ArrayList<>();
        TreeMap<Integer, Integer> windows = new TreeMap<>();
        List<Peal> peals = new ArrayList<>();
        int air = 0;
        int hour = 0;
        int frozen = 0;
        int thawed = 0;

        State copy() {
            State s = new State();
            s.depths = new ArrayList<>(depths);
            for (List<Layer> layers : ice) {
                s.ice.add(new ArrayList<>(layers));
            }
            s.cracks = new ArrayList<>(cracks);
            s.windows = new TreeMap<>(windows);
            s.peals = new ArrayList<>(peals);
            s.air = air;
            s.hour = hour;
            s.frozen = frozen;
            s.thawed = thawed;
            return s;
        }
    }

    private static final String N = "([0-9]{1,3})";
    private static final String T = "(-?[0-9]{1,3})";
    private static final String D = "([0-9])";
    private static final String COMMAND = "(?:(lake) " + N + "|(freeze) " + D + " " + N + " " + T + "|(air) " + T + "|(pass) "
            + N + "|(window) " + N + "-" + N + "|(open) " + D + "|(strike) " + D + D + ")";
    private static final Pattern ONE = Pattern.compile(COMMAND);
    private static final Pattern ALL = Pattern.compile(COMMAND + "(?:;" + COMMAND + ")*");

    private State now = new State();
    private State saved = null;
    private final Deque<State> past = new ArrayDeque<>();
    private String text = "";
    private int error = -1;
    private int failed = -1;
    private char failure = '-';
    private String line = "";

    private static <E extends Throwable> void need(boolean condition, E otherwise) throws E {
        if (!condition) {
            throw otherwise;
        }
    }

    private int change(IntSupplier change) {
        State before = now.copy();
        int answer = change.getAsInt();
        past.addLast(before);
        if (past.size() > 8) {
            past.removeFirst();
        }
        return answer;
    }

    private List<Layer> ice(int lake) {
        need(lake >= 0 && lake < now.ice.size(), new IndexOutOfBoundsException());
        return now.ice.get(lake);
    }

    private Layer layer(int lake, int layer) {
        List<Layer> layers = ice(lake);
        need(layer >= 0 && layer < layers.size(), new IndexOutOfBoundsException());
        return layers.get(layer);
    }

    private static int sum(List<Layer> layers) {
        return layers.stream().mapToInt(Layer::thickness).sum();
    }

    private int rawAddLake(int depth) {
        need(depth >= 20 && depth <= 400, new IllegalArgumentException());
        need(now.depths.size() < 5, new IllegalStateException());
        now.depths.add(depth);
        now.ice.add(new ArrayList<>());
        now.cracks.add(0);
        return now.depths.size() - 1;
    }

    private int rawFreeze(int lake, int thickness, int temperature) {
        List<Layer> layers = ice(lake);
        need(thickness >= 1 && thickness <= 50 && temperature >= -40 && temperature <= 0, new IllegalArgumentException());
        need(layers.size() < 8, new IllegalStateException());
        need(sum(layers) + thickness <= now.depths.get(lake) / 2.0, new UnsupportedOperationException());
        layers.add(new Layer(thickness, temperature, 0));
        now.frozen += thickness;
        return layers.size();
    }

    private int rawSetAir(int temperature) {
        need(temperature >= -40 && temperature <= 20, new IllegalArgumentException());
        int before = now.air;
        now.air = temperature;
        return before;
    }

    private int rawPass(int hours) {
        need(hours >= 1 && hours <= 48, new IllegalArgumentException());
        int cracks = 0;
        for (int i = 0; i < hours; i++) {
            cracks += oneHour(now);
        }
        return cracks;
    }

    private static boolean inWindow(State s, int hour) {
        return s.windows.entrySet().stream().anyMatch(w -> w.getKey() <= hour && hour <= w.getValue());
    }

    private static int oneHour(State s) {
        s.hour++;
        int cracks = 0;
        for (int lake = 0; lake < s.ice.size(); lake++) {
            if (!s.ice.get(lake).isEmpty()) {
                cracks += oneHourOf(s, lake);
            }
        }
        return cracks;
    }

    private static int oneHourOf(State s, int lake) {
        List<Layer> old = s.ice.get(lake);
        List<Layer> layers = new ArrayList<>();
        for (int i = 0; i < old.size(); i++) {
            int above = i == 0 ? s.air : old.get(i - 1).temperature;
            int beneath = i == old.size() - 1 ? 0 : old.get(i + 1).temperature;
            int target = (int) ((above + beneath) / 2.0);
            int own = old.get(i).temperature;
            layers.add(old.get(i).at(Math.min(0, own + Integer.signum(target - own))));
        }
        if (!inWindow(s, s.hour)) {
            for (int i = 0; i < layers.size(); i++) {
                int beneath = i == layers.size() - 1 ? 0 : layers.get(i + 1).temperature;
                Layer one = layers.get(i);
                layers.set(i, one.strained(one.strain + Math.abs(one.temperature - beneath)));
            }
        }
        int cracks = 0;
        for (int i = 0; i < layers.size(); i++) {
            Layer one = layers.get(i);
            if (one.strain >= 30) {
                cracks++;
                record(s, new Peal('c', lake, one.temperature == 0 ? 0 : one.pitch(), s.hour));
                layers.set(i, one.strained(0));
                for (int other : new int[] {i - 1, i + 1}) {
                    if (other >= 0 && other < layers.size()) {
                        layers.set(other, layers.get(other).strained(layers.get(other).strain + 5));
                    }
                }
            }
        }
        s.cracks.set(lake, s.cracks.get(lake) + cracks);
        Layer top = layers.get(0);
        if (s.air > 0 && top.temperature == 0) {
            s.thawed++;
            layers.remove(0);
            if (top.thickness > 1) {
                layers.add(0, new Layer(top.thickness - 1, 0, top.strain));
            }
        }
        s.ice.set(lake, layers);
        return cracks;
    }

    private static void record(State s, Peal peal) {
        s.peals.add(0, peal);
        if (s.peals.size() > 16) {
            s.peals.remove(16);
        }
    }

    private int rawAddWindow(int first, int last) {
        need(first <= last && first <= 9999, new IllegalArgumentException());
        need(now.windows.size() < 6 && first > now.hour, new IllegalStateException());
        need(now.windows.entrySet().stream().noneMatch(w -> Math.max(w.getKey(), first) <= Math.min(w.getValue(), last)),
                new UnsupportedOperationException());
        now.windows.put(first, last);
        return now.windows.size();
    }

    private int key(int position) {
        need(position >= 0 && position < now.windows.size(), new IndexOutOfBoundsException());
        return new ArrayList<>(now.windows.keySet()).get(position);
    }

    private int rawRemoveWindow(int position) {
        now.windows.remove(key(position));
        return now.windows.size();
    }

    private int rawStrike(int lake, int layer) {
        int pitch = pitch(lake, layer);
        record(now, new Peal('s', lake, pitch, now.hour));
        return pitch;
    }

    int addLake(int depth) {
        return change(() -> rawAddLake(depth));
    }

    int freeze(int lake, int thickness, int temperature) {
        return change(() -> rawFreeze(lake, thickness, temperature));
    }

    int lakeCount() {
        return now.depths.size();
    }

    int depth(int lake) {
        ice(lake);
        return now.depths.get(lake);
    }

    int layerCount(int lake) {
        return ice(lake).size();
    }

    int thickness(int lake, int layer) {
        return layer(lake, layer).thickness;
    }

    int temperature(int lake, int layer) {
        return layer(lake, layer).temperature;
    }

    int strain(int lake, int layer) {
        return layer(lake, layer).strain;
    }

    int iceThickness(int lake) {
        return sum(ice(lake));
    }

    int layerAt(int lake, int centimetres) {
        List<Layer> layers = ice(lake);
        need(centimetres >= 0 && centimetres < sum(layers), new NoSuchElementException());
        int layer = 0;
        while (sum(layers.subList(0, layer + 1)) <= centimetres) {
            layer++;
        }
        return layer;
    }

    int setAir(int temperature) {
        return change(() -> rawSetAir(temperature));
    }

    int air() {
        return now.air;
    }

    int pass(int hours) {
        return change(() -> rawPass(hours));
    }

    int hour() {
        return now.hour;
    }

    int hoursUntilCrack() {
        State copy = now.copy();
        for (int i = 1; i <= 96; i++) {
            if (oneHour(copy) > 0) {
                return i;
            }
        }
        throw new NoSuchElementException();
    }

    int hoursUntilThawed(int lake) {
        ice(lake);
        State copy = now.copy();
        for (int i = 0; i <= 96; i++) {
            if (copy.ice.get(lake).isEmpty()) {
                return i;
            }
            oneHour(copy);
        }
        throw new NoSuchElementException();
    }

    int addWindow(int first, int last) {
        return change(() -> rawAddWindow(first, last));
    }

    int removeWindow(int position) {
        return change(() -> rawRemoveWindow(position));
    }

    int windowCount() {
        return now.windows.size();
    }

    int windowFirst(int position) {
        return key(position);
    }

    int windowLast(int position) {
        return now.windows.get(key(position));
    }

    boolean isInWindow(int hour) {
        return inWindow(now, hour);
    }

    int strike(int lake, int layer) {
        return change(() -> rawStrike(lake, layer));
    }

    int pitch(int lake, int layer) {
        Layer one = layer(lake, layer);
        need(one.temperature != 0, new UnsupportedOperationException());
        return one.pitch();
    }

    int pealCount() {
        return now.peals.size();
    }

    private Peal peal(int recency) {
        need(recency >= 0 && recency < now.peals.size(), new NoSuchElementException());
        return now.peals.get(recency);
    }

    char pealKind(int recency) {
        return peal(recency).kind;
    }

    int pealLake(int recency) {
        return peal(recency).lake;
    }

    int pealPitch(int recency) {
        return peal(recency).pitch;
    }

    int pealHour(int recency) {
        return peal(recency).hour;
    }

    int echoPairs() {
        long equal = now.peals.stream().flatMap(a -> now.peals.stream().filter(b -> b.pitch == a.pitch)).count();
        return (int) (equal - now.peals.size()) / 2;
    }

    int pitchCount() {
        Set<Integer> pitches = new HashSet<>();
        now.peals.forEach(peal -> pitches.add(peal.pitch));
        return pitches.size();
    }

    int cracksOf(int lake) {
        ice(lake);
        return now.cracks.get(lake);
    }

    int lakeAtRank(int rank) {
        need(rank >= 0 && rank < lakeCount(), new NoSuchElementException());
        List<Integer> lakes = new ArrayList<>();
        for (int i = 0; i < lakeCount(); i++) {
            lakes.add(i);
        }
        lakes.sort(Comparator.comparing((Integer i) -> -iceThickness(i)).thenComparing(i -> -cracksOf(i)));
        return lakes.get(rank);
    }

    int frozenTotal() {
        return now.frozen;
    }

    int thawedTotal() {
        return now.thawed;
    }

    int crackTotal() {
        return now.cracks.stream().mapToInt(c -> c).sum();
    }

    int append(char character) {
        need(character >= 32 && character <= 126, new IllegalArgumentException());
        need(text.length() < 60, new IllegalStateException());
        text += character;
        return text.length();
    }

    int run() {
        String commands = text;
        text = "";
        if (!ALL.matcher(commands).matches()) {
            error = errorIn(commands);
            throw new IllegalArgumentException();
        }
        String[] parts = commands.split(";");
        State before = now;
        now = before.copy();
        for (int i = 0; i < parts.length; i++) {
            try {
                carryOut(parts[i]);
            } catch (RuntimeException e) {
                now = before;
                failed = i;
                failure = kindOf(e);
                throw new IllegalStateException();
            }
        }
        State after = now;
        now = before;
        return change(() -> {
            now = after;
            return parts.length;
        });
    }

    private static int errorIn(String commands) {
        for (int i = 0; i < commands.length(); i++) {
            Matcher matcher = ALL.matcher(commands.substring(0, i + 1));
            if (!matcher.matches() && !matcher.hitEnd()) {
                return i;
            }
        }
        return commands.length();
    }

    private static char kindOf(RuntimeException e) {
        return e instanceof IndexOutOfBoundsException ? 'b' : e instanceof IllegalArgumentException ? 'a'
                : e instanceof IllegalStateException ? 's' : 'u';
    }

    private void carryOut(String command) {
        Matcher matcher = ONE.matcher(command);
        need(matcher.matches(), new AssertionError(command));
        List<String> words = new ArrayList<>();
        for (int i = 1; i <= matcher.groupCount(); i++) {
            if (matcher.group(i) != null) {
                words.add(matcher.group(i));
            }
        }
        int[] n = words.stream().skip(1).mapToInt(Integer::parseInt).toArray();
        switch (words.get(0)) {
            case "lake" -> rawAddLake(n[0]);
            case "freeze" -> rawFreeze(n[0], n[1], n[2]);
            case "air" -> rawSetAir(n[0]);
            case "pass" -> rawPass(n[0]);
            case "window" -> rawAddWindow(n[0], n[1]);
            case "open" -> rawRemoveWindow(n[0]);
            default -> rawStrike(n[0], n[1]);
        }
    }

    int errorPosition() {
        need(error >= 0, new NoSuchElementException());
        return error;
    }

    int failedCommand() {
        need(failed >= 0, new NoSuchElementException());
        return failed;
    }

    char failureKind() {
        need(failed >= 0, new NoSuchElementException());
        return failure;
    }

    int describeLake(int lake) {
        List<String> words = new ArrayList<>();
        for (Layer one : ice(lake)) {
            words.add(one.thickness + "/" + one.temperature + (one.strain >= 10 ? "!" : ""));
        }
        line = String.join(" ", words);
        return line.length();
    }

    char lineAt(int index) {
        need(index >= 0 && index < line.length(), new IndexOutOfBoundsException());
        return line.charAt(index);
    }

    double meanTemperature(int lake) {
        List<Layer> layers = ice(lake);
        need(!layers.isEmpty(), new ArithmeticException());
        return (double) layers.stream().mapToInt(Layer::temperature).sum() / (double) layers.size();
    }

    float iceShare(int lake) {
        return (float) iceThickness(lake) / (float) depth(lake);
    }

    int undo() {
        need(!past.isEmpty(), new IllegalStateException());
        now = past.removeLast();
        return past.size();
    }

    int save() {
        saved = now.copy();
        return lakeCount();
    }

    int restore() {
        need(saved != null, new IllegalStateException());
        now = saved.copy();
        past.clear();
        return lakeCount();
    }
}
