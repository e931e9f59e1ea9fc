import java.util.ArrayList;
import java.util.HashMap;
import java.util.LinkedHashMap;
import java.util.List;
import java.util.Map;

/**
 * The document's factory once more, written for plainness only: lists that are copied whole for every saved state.
 * A refused call answers one of the three numbers below.
 */
final class Model {
    static final long INDEX = Long.MIN_VALUE;
    static final long ARGUMENT = Long.MIN_VALUE + 1;
    static final long STATE = Long.MIN_VALUE + 2;

    private Map<String, Long> numbers = new HashMap<>();
    private Map<List<Integer>, int[]> piles = new LinkedHashMap<>();
    private Map<List<Integer>, int[]> lots = new LinkedHashMap<>();
    private List<long[]> deliveries = new ArrayList<>();
    private List<int[]> events = new ArrayList<>();
    private final List<Model> saved = new ArrayList<>();
    private String text = "";

    Model() {
        numbers.put("sharpness", 60L);
        numbers.put("size", 10L);
        for (int glaze = 0; glaze < 4; glaze++) {
            numbers.put("base" + glaze, 8L);
            numbers.put("sensitivity" + glaze, 10L);
            numbers.put("defects" + glaze, 10L);
            numbers.put("price" + glaze, 100L);
        }
    }

    private int number(String name) {
        return numbers.getOrDefault(name, 0L).intValue();
    }

    private int put(String name, int value) {
        Long before = numbers.put(name, (long) value);
        return before == null ? 0 : before.intValue();
    }

    private void add(String name, int value) {
        numbers.merge(name, (long) value, Long::sum);
    }

    private void event(int kind, int number) {
        events.add(0, new int[] {kind, number});
        events = new ArrayList<>(events.subList(0, Math.min(20, events.size())));
    }

    private void save() {
        Model copy = new Model();
        copy.takeStateOf(this);
        saved.add(copy);
        if (saved.size() > 6) {
            saved.remove(0);
        }
    }

    private void takeStateOf(Model other) {
        numbers = new HashMap<>(other.numbers);
        piles = new LinkedHashMap<>();
        other.piles.forEach((key, pile) -> piles.put(key, pile.clone()));
        lots = new LinkedHashMap<>();
        other.lots.forEach((key, lot) -> lots.put(key, lot.clone()));
        deliveries = new ArrayList<>();
        other.deliveries.forEach(delivery -> deliveries.add(delivery.clone()));
        events = new ArrayList<>(other.events);
    }

    private static boolean in(long value, long least, long greatest) {
        return least <= value && value <= greatest;
    }

    /** The call of this name; its arguments are a[0], a[1] and so on. */
    long call(String name, int... a) {
        switch (name) {
            case "setGlaze": return setTwo(in(a[0], 0, 3), in(a[1], 0, 19) && in(a[2], 0, 20), "base" + a[0], a[1], "sensitivity" + a[0], a[2]);
            case "setQuality": return setTwo(in(a[0], 0, 3), in(a[1], 0, 100) && in(a[2], 0, 9999), "defects" + a[0], a[1], "price" + a[0], a[2]);
            case "setPosition": return setTwo(in(a[0], 0, 2) && in(a[1], 0, 7), in(a[2], -40, 40) && in(a[3], 0, 100),
                    "offset" + a[0] + "/" + a[1], a[2], "breakage" + a[0] + "/" + a[1], a[3]);
            case "setSharpness": return setTwo(true, in(a[0], 0, 100), "sharpness", a[0], "unused", 0);
            case "setBoxSize":
                if (in(a[0], 1, 50) && (total(7) > 0 || total(8) > 0)) return STATE;
                return setTwo(true, in(a[0], 1, 50), "size", a[0], "unused", 0);
            case "fire": case "grade": case "pack": case "deliver": case "drop": return command(name, true, a);
            case "takeBack": return takeBack(a[0], a[1], a[2]);
            case "replace": return replace(a[0]);
            case "undo":
                if (saved.isEmpty()) return STATE;
                takeStateOf(saved.remove(saved.size() - 1));
                return saved.size();
            case "execute": return execute();
            case "append":
                if (!in(a[0], 32, 126)) return ARGUMENT;
                if (text.length() == 100) return STATE;
                text += (char) a[0];
                return text.length();
            case "clear":
                int length = text.length();
                text = "";
                return length;
            default: return ask(name, a);
        }
    }

    private long setTwo(boolean exists, boolean fits, String name, int value, String second, int secondValue) {
        if (!exists) return INDEX;
        if (!fits) return ARGUMENT;
        save();
        put(second, secondValue);
        return put(name, value);
    }

    private long command(String name, boolean saves, int... a) {
        long fault = faultOf(name, a);
        if (fault != 0) return fault;
        if (saves) save();
        switch (name) {
            case "fire": return fire(a[0], a[1], a[2], a[3]);
            case "grade": return grade(a[0]);
            case "pack": return pack();
            case "deliver": return deliver(a[0], a[1], a[2]);
            default: return drop(lots.get(List.of(a[0], a[1], a[2])), a[3]);
        }
    }

    private long faultOf(String name, int... a) {
        switch (name) {
            case "fire":
                if (!in(a[0], 0, 2) || !in(a[1], 0, 3)) return INDEX;
                return !in(a[2], 800, 1200) || !in(a[3], 1, 100) ? ARGUMENT : number("firings") == 2000 ? STATE : 0;
            case "grade": return !in(a[0], 1, 10) ? ARGUMENT : piles.isEmpty() ? STATE : 0;
            case "pack": return 0;
            case "deliver":
                if (!in(a[0], 0, 3)) return INDEX;
                if (!in(a[1], 1, 2) || !in(a[2], 1, 100000)) return ARGUMENT;
                return deliveries.size() == 40 || chosen(a[0], a[1], a[2]) == null ? STATE : 0;
            default:
                int[] lot = lots.get(List.of(a[0], a[1], a[2]));
                return lot == null ? INDEX : !in(a[3], 0, number("size")) ? ARGUMENT : lot[1] == 0 ? STATE : 0;
        }
    }

    private int shade(int kiln, int position, int glaze, int peak) {
        int temperature = peak + number("offset" + kiln + "/" + position) + (kiln == 2 ? 5 * (position - 3) : 0);
        double exact = number("sensitivity" + glaze) * (temperature - 1000) / 100.0;
        return (int) Math.max(0, Math.min(19, number("base" + glaze) + Math.floor(exact)));
    }

    private int fire(int kiln, int glaze, int peak, int tiles) {
        int lost = 0;
        for (int position = 0; position < 8; position++) {
            int broken = tiles * number("breakage" + kiln + "/" + position) / 100;
            add("broken" + kiln + "/" + position, broken);
            lost += broken;
            if (broken < tiles) {
                int[] pile = piles.computeIfAbsent(List.of(glaze, shade(kiln, position, glaze, peak)), key -> new int[2]);
                pile[0] += tiles - broken;
                pile[1] += (tiles - broken) * number("defects" + glaze) / 100;
            }
        }
        add("firings", 1);
        add("fired", 8 * tiles);
        add("broken", lost);
        event(1, lost);
        return lost;
    }

    private int hiddenAfter(int hidden, int passes) {
        for (int pass = 0; pass < passes; pass++) {
            hidden -= (int) Math.ceil(hidden * number("sharpness") / 100.0);
        }
        return hidden;
    }

    private int grade(int passes) {
        int found = 0;
        for (Map.Entry<List<Integer>, int[]> entry : piles.entrySet()) {
            int[] pile = entry.getValue();
            int hidden = hiddenAfter(pile[1], passes);
            int second = pile[1] - hidden;
            found += second;
            addLoose(entry.getKey().get(0), entry.getKey().get(1), 1, pile[0] - second, hidden);
            addLoose(entry.getKey().get(0), entry.getKey().get(1), 2, second, 0);
        }
        piles.clear();
        event(2, found);
        return found;
    }

    private void addLoose(int glaze, int shade, int grade, int tiles, int hidden) {
        if (tiles > 0) {
            int[] lot = lots.computeIfAbsent(List.of(glaze, shade, grade), key -> new int[3]);
            lot[0] += tiles;
            lot[2] += hidden;
        }
    }

    private int pack() {
        int filled = 0;
        for (int[] lot : lots.values()) {
            while (lot[0] >= number("size")) {
                lot[0] -= number("size");
                lot[1]++;
                filled++;
            }
        }
        return filled;
    }

    private List<Integer> chosen(int glaze, int grade, int boxes) {
        List<Integer> best = null;
        for (int shade = 19; shade >= 0; shade--) {
            List<Integer> key = List.of(glaze, shade, grade);
            int[] lot = lots.get(key);
            if (lot != null && lot[1] >= boxes && (best == null || lot[1] <= lots.get(best)[1])) best = key;
        }
        return best;
    }

    private int content(int[] lot) {
        return lot[0] + lot[1] * number("size");
    }

    private void limit(int[] lot) {
        lot[2] = Math.min(lot[2], content(lot));
    }

    private int value(int glaze, int grade) {
        return number("price" + glaze) / grade;
    }

    private int deliver(int glaze, int grade, int boxes) {
        List<Integer> key = chosen(glaze, grade, boxes);
        int[] lot = lots.get(key);
        long tiles = (long) boxes * number("size");
        long complaints = lot[2] * tiles / content(lot);
        lot[1] -= boxes;
        lot[2] -= (int) complaints;
        limit(lot);
        int place = new ArrayList<>(lots.keySet()).indexOf(key);
        deliveries.add(new long[] {place, boxes, boxes, complaints, tiles * value(glaze, grade)});
        event(3, deliveries.size() - 1);
        return deliveries.size() - 1;
    }

    private void breakTiles(int tiles) {
        add("broken", tiles);
        if (tiles > 0) event(4, tiles);
    }

    private int drop(int[] lot, int broken) {
        lot[1]--;
        lot[0] += number("size") - broken;
        limit(lot);
        breakTiles(broken);
        return lot[1];
    }

    private int[] lotOf(long[] delivery) {
        return new ArrayList<>(lots.values()).get((int) delivery[0]);
    }

    private long takeBack(int number, int boxes, int broken) {
        if (!in(number, 0, deliveries.size() - 1)) return INDEX;
        if (!in(boxes, 1, 100000) || !in(broken, 0, (long) boxes * number("size"))) return ARGUMENT;
        if (deliveries.get(number)[2] < boxes) return STATE;
        save();
        long[] delivery = deliveries.get(number);
        delivery[2] -= boxes;
        lotOf(delivery)[0] += boxes * number("size") - broken;
        breakTiles(broken);
        return delivery[2];
    }

    private long replace(int number) {
        if (!in(number, 0, deliveries.size() - 1)) return INDEX;
        long[] delivery = deliveries.get(number);
        if (delivery[3] == 0 || lotOf(delivery)[0] < delivery[3]) return STATE;
        save();
        int replaced = (int) delivery[3];
        delivery[3] = 0;
        lotOf(delivery)[0] -= replaced;
        limit(lotOf(delivery));
        breakTiles(replaced);
        return replaced;
    }

    // ---- text

    private static final Map<String, String> NAMES =
            Map.of("fire", "fire", "grade", "grade", "pack", "pack", "ship", "deliver", "drop", "drop");
    private static final Map<String, Integer> ARGUMENTS = Map.of("fire", 4, "grade", 1, "pack", 0, "ship", 3, "drop", 4);

    private int firstError() {
        String[] commands = text.split(";", -1);
        for (int number = 0; number < commands.length; number++) {
            String[] words = commands[number].trim().split(" +");
            Integer due = ARGUMENTS.get(words[0]);
            if (due == null) return 10 * number + 1;
            if (words.length != due + 1) return 10 * number + 2;
            for (int word = 1; word < words.length; word++) {
                if (!words[word].matches("[0-9]{1,4}")) return 10 * number + 3;
            }
        }
        return -1;
    }

    private long execute() {
        if (firstError() != -1) return STATE;
        save();
        String[] commands = text.split(";", -1);
        text = "";
        for (int number = 0; number < commands.length; number++) {
            String[] words = commands[number].trim().split(" +");
            int[] a = new int[words.length - 1];
            for (int i = 0; i < a.length; i++) {
                a[i] = Integer.parseInt(words[i + 1]);
            }
            if (command(NAMES.get(words[0]), false, a) < -1) return number;
        }
        return commands.length;
    }

    // ---- questions

    private long ask(String name, int... a) {
        switch (name) {
            case "glaze": return !in(a[0], 0, 3) ? INDEX : !in(a[1], 0, 5) ? ARGUMENT : glaze(a[0], a[1]);
            case "position":
                if (!in(a[0], 0, 2) || !in(a[1], 0, 7)) return INDEX;
                if (!in(a[2], 0, 2)) return ARGUMENT;
                return number(new String[] {"offset", "breakage", "broken"}[a[2]] + a[0] + "/" + a[1]);
            case "pile": return row(piles, a[0], a[1], 3);
            case "lot": return row(lots, a[0], a[1], 5);
            case "findLot":
                if (!in(a[0], 0, 3) || !in(a[1], 0, 19) || !in(a[2], 1, 2)) return ARGUMENT;
                return new ArrayList<>(lots.keySet()).indexOf(List.of(a[0], a[1], a[2]));
            case "delivery":
                if (!in(a[0], 0, deliveries.size() - 1)) return INDEX;
                return !in(a[1], 0, 4) ? ARGUMENT : deliveries.get(a[0])[a[1]];
            case "event":
                if (a[0] < 0 || !in(a[1], 0, 1)) return ARGUMENT;
                return a[0] < events.size() ? events.get(a[0])[a[1]] : -1;
            case "total": return !in(a[0], 0, 15) ? ARGUMENT : total(a[0]);
            case "shadeAt":
                if (!in(a[0], 0, 2) || !in(a[1], 0, 7) || !in(a[2], 0, 3)) return INDEX;
                return !in(a[3], 800, 1200) ? ARGUMENT : shade(a[0], a[1], a[2], a[3]);
            case "bestPeak":
                if (!in(a[0], 0, 2) || !in(a[1], 0, 3)) return INDEX;
                return !in(a[2], 0, 19) ? ARGUMENT : bestPeak(a[0], a[1], a[2]);
            case "largest":
                if (!in(a[0], 0, 3)) return INDEX;
                return !in(a[1], 1, 2) ? ARGUMENT : boxesOf(a[0], a[1]).stream().max(Integer::compare).orElse(0);
            case "possible":
                if (!in(a[0], 0, 3)) return INDEX;
                boolean fits = in(a[2], 1, 100000) && in(a[3], 1, 100000) && in(a[4], 1, 100000);
                return !in(a[1], 1, 2) || !fits ? ARGUMENT : possible(boxesOf(a[0], a[1]), a[2], a[3], a[4]);
            case "wouldHide":
                if (!in(a[0], 1, 10)) return ARGUMENT;
                return piles.values().stream().mapToInt(pile -> hiddenAfter(pile[1], a[0])).sum();
            case "firstError": return firstError();
            default: throw new AssertionError(name);
        }
    }

    private long glaze(int glaze, int property) {
        if (property < 4) return number(new String[] {"base", "sensitivity", "defects", "price"}[property] + glaze);
        long result = 0;
        for (Map.Entry<List<Integer>, int[]> lot : lots.entrySet()) {
            if (lot.getKey().get(0) == glaze) result += property == 4 ? 1 : content(lot.getValue());
        }
        return result;
    }

    private static long row(Map<List<Integer>, int[]> rows, int index, int property, int last) {
        if (!in(index, 0, rows.size() - 1)) return INDEX;
        if (!in(property, 0, last)) return ARGUMENT;
        List<Integer> key = new ArrayList<>(rows.keySet()).get(index);
        return property < key.size() ? key.get(property) : rows.get(key)[property - key.size()];
    }

    private long total(int property) {
        switch (property) {
            case 0: return number("sharpness");
            case 1: return number("size");
            case 2: return number("firings");
            case 3: return number("fired");
            case 4: return number("broken");
            case 5: return piles.values().stream().mapToLong(pile -> pile[0]).sum();
            case 6: return lots.values().stream().mapToLong(lot -> lot[0]).sum();
            case 7: return lots.values().stream().mapToLong(lot -> lot[1]).sum();
            case 8: return deliveries.stream().mapToLong(delivery -> delivery[2] * number("size")).sum();
            case 9: return piles.size();
            case 10: return lots.size();
            case 11: return deliveries.size();
            case 12: return saved.size();
            case 13: return lots.entrySet().stream()
                    .mapToLong(lot -> (long) content(lot.getValue()) * value(lot.getKey().get(0), lot.getKey().get(2))).sum();
            case 14: return deliveries.stream().mapToLong(delivery -> delivery[4]).sum();
            default: return text.length();
        }
    }

    private int bestPeak(int kiln, int glaze, int shade) {
        int best = -1;
        int most = 1;
        for (int peak = 1200; peak >= 800; peak--) {
            int count = 0;
            for (int position = 0; position < 8; position++) {
                if (shade(kiln, position, glaze, peak) == shade) count++;
            }
            if (count >= most) {
                most = count;
                best = peak;
            }
        }
        return best;
    }

    private List<Integer> boxesOf(int glaze, int grade) {
        List<Integer> boxes = new ArrayList<>();
        lots.forEach((key, lot) -> {
            if (key.get(0) == glaze && key.get(2) == grade) boxes.add(lot[1]);
        });
        return boxes;
    }

    /** Every way to give each of the three a lot, or none (the number behind the last lot). */
    private static int possible(List<Integer> boxes, int a, int b, int c) {
        int most = 0;
        int none = boxes.size();
        for (int i = 0; i <= none; i++) {
            for (int j = 0; j <= none; j++) {
                for (int k = 0; k <= none; k++) {
                    long[] used = new long[none + 1];
                    used[i] += a;
                    used[j] += b;
                    used[k] += c;
                    boolean fits = true;
                    for (int lot = 0; lot < none; lot++) {
                        fits &= used[lot] <= boxes.get(lot);
                    }
                    int made = (i < none ? 1 : 0) + (j < none ? 1 : 0) + (k < none ? 1 : 0);
                    if (fits) most = Math.max(most, made);
                }
            }
        }
        return most;
    }
}
