/** A simulation of a tile factory: kilns, a grading bench, lots of boxes, deliveries and a text of commands. */
public final class TileFactory {
    public static final int NONE = -1;

    private static final int GLAZES = 4;
    private static final int SHADES = 20;
    private static final int GRADES = 2;
    private static final int KILNS = 3;
    private static final int SLOPED_KILN = 2;
    private static final int POSITIONS = 8;

    private static final int MAX_SENSITIVITY = 20;
    private static final int MAX_PRICE = 9999;
    private static final int MAX_OFFSET = 40;
    private static final int MAX_BOX_SIZE = 50;
    private static final int MIN_PEAK = 800;
    private static final int MAX_PEAK = 1200;
    private static final int MAX_TILES = 100;
    private static final int MAX_FIRINGS = 2000;
    private static final int MAX_PASSES = 10;
    private static final int MAX_BOXES = 100000;
    private static final int MAX_DELIVERIES = 40;
    private static final int MAX_EVENTS = 20;
    private static final int MAX_SAVED = 6;
    private static final int MAX_TEXT = 100;
    private static final int MIN_CODE = 32;
    private static final int MAX_CODE = 126;

    private static final int EVENT_FIRING = 1;
    private static final int EVENT_GRADING = 2;
    private static final int EVENT_DELIVERY = 3;
    private static final int EVENT_BREAKING = 4;

    private static final Verb[] VERBS = Verb.values();

    private final State state = new State();
    private final History history = new History();
    private final Script script = new Script();

    public TileFactory() {
    }

    // ---- glazes, kilns, bench

    public int setGlaze(int glaze, int base, int sensitivity)
            throws IndexOutOfBoundsException, IllegalArgumentException {
        checkIndex(isGlaze(glaze));
        checkArgument(isWithin(base, 0, SHADES - 1) && isWithin(sensitivity, 0, MAX_SENSITIVITY));
        history.save(state);
        Glaze changed = state.glazes[glaze];
        int previous = changed.base;
        changed.base = base;
        changed.sensitivity = sensitivity;
        return previous;
    }

    public int setQuality(int glaze, int defects, int price)
            throws IndexOutOfBoundsException, IllegalArgumentException {
        checkIndex(isGlaze(glaze));
        checkArgument(isPercentage(defects) && isWithin(price, 0, MAX_PRICE));
        history.save(state);
        Glaze changed = state.glazes[glaze];
        int previous = changed.defects;
        changed.defects = defects;
        changed.price = price;
        return previous;
    }

    public int setPosition(int kiln, int position, int offset, int breakage)
            throws IndexOutOfBoundsException, IllegalArgumentException {
        checkIndex(isKiln(kiln) && isPosition(position));
        checkArgument(isWithin(offset, -MAX_OFFSET, MAX_OFFSET) && isPercentage(breakage));
        history.save(state);
        Position changed = state.positions[kiln * POSITIONS + position];
        int previous = changed.offset;
        changed.offset = offset;
        changed.breakage = breakage;
        return previous;
    }

    public int setSharpness(int sharpness) throws IllegalArgumentException {
        checkArgument(isPercentage(sharpness));
        history.save(state);
        int previous = state.sharpness;
        state.sharpness = sharpness;
        return previous;
    }

    public int setBoxSize(int tiles) throws IllegalArgumentException, IllegalStateException {
        checkArgument(isWithin(tiles, 1, MAX_BOX_SIZE));
        checkState(state.boxesInLots() == 0 && state.boxesOut() == 0);
        history.save(state);
        int previous = state.boxSize;
        state.boxSize = tiles;
        return previous;
    }

    public int fire(int kiln, int glaze, int peak, int tiles)
            throws IndexOutOfBoundsException, IllegalArgumentException, IllegalStateException {
        refuse(state.faultOfFiring(kiln, glaze, peak, tiles));
        history.save(state);
        return state.makeFiring(kiln, glaze, peak, tiles);
    }

    public int grade(int passes) throws IllegalArgumentException, IllegalStateException {
        refuse(state.faultOfGrading(passes));
        history.save(state);
        return state.gradeBench(passes);
    }

    public int pack() {
        history.save(state);
        return state.packLots();
    }

    // ---- deliveries, breaking, returns

    public int deliver(int glaze, int grade, int boxes)
            throws IndexOutOfBoundsException, IllegalArgumentException, IllegalStateException {
        refuse(state.faultOfDelivery(glaze, grade, boxes));
        history.save(state);
        return state.makeDelivery(glaze, grade, boxes);
    }

    public int drop(int glaze, int shade, int grade, int broken)
            throws IndexOutOfBoundsException, IllegalArgumentException, IllegalStateException {
        refuse(state.faultOfDropping(glaze, shade, grade, broken));
        history.save(state);
        return state.dropBox(glaze, shade, grade, broken);
    }

    public int takeBack(int delivery, int boxes, int broken)
            throws IndexOutOfBoundsException, IllegalArgumentException, IllegalStateException {
        refuse(state.faultOfReturn(delivery, boxes, broken));
        history.save(state);
        return state.openReturned(delivery, boxes, broken);
    }

    public int replace(int delivery) throws IndexOutOfBoundsException, IllegalStateException {
        refuse(state.faultOfReplacing(delivery));
        history.save(state);
        return state.replaceComplaints(delivery);
    }

    public int undo() throws IllegalStateException {
        checkState(history.count > 0);
        history.restore(state);
        return history.count;
    }

    // ---- what there is

    public int glaze(int glaze, int property) throws IndexOutOfBoundsException, IllegalArgumentException {
        checkIndex(isGlaze(glaze));
        checkArgument(isWithin(property, 0, 5));
        if (property == 4) {
            return state.lotsOfGlaze(glaze);
        }
        if (property == 5) {
            return state.contentOf(glaze, 1) + state.contentOf(glaze, 2);
        }
        return state.glazes[glaze].property(property);
    }

    public int position(int kiln, int position, int property)
            throws IndexOutOfBoundsException, IllegalArgumentException {
        checkIndex(isKiln(kiln) && isPosition(position));
        checkArgument(isWithin(property, 0, 2));
        return state.positions[kiln * POSITIONS + position].property(property);
    }

    public int pile(int pile, int property) throws IndexOutOfBoundsException, IllegalArgumentException {
        checkIndex(state.hasPile(pile));
        checkArgument(isWithin(property, 0, 3));
        return state.piles[pile].property(property);
    }

    public int lot(int lot, int property) throws IndexOutOfBoundsException, IllegalArgumentException {
        checkIndex(state.hasLot(lot));
        checkArgument(isWithin(property, 0, 5));
        return state.lots[lot].property(property);
    }

    public int findLot(int glaze, int shade, int grade) throws IllegalArgumentException {
        checkArgument(isGlaze(glaze) && isShade(shade) && isGrade(grade));
        return state.indexOfLot(glaze, shade, grade);
    }

    public long delivery(int delivery, int property) throws IndexOutOfBoundsException, IllegalArgumentException {
        checkIndex(state.hasDelivery(delivery));
        checkArgument(isWithin(property, 0, 4));
        return state.deliveries[delivery].property(property);
    }

    public int event(int index, int property) throws IllegalArgumentException {
        checkArgument(index >= 0 && isWithin(property, 0, 1));
        return property == 0 ? state.events.kindOf(index) : state.events.numberOf(index);
    }

    public long total(int property) throws IllegalArgumentException {
        checkArgument(isWithin(property, 0, 15));
        if (property == 12) {
            return history.count;
        }
        if (property == 15) {
            return script.length;
        }
        return state.sum(property);
    }

    // ---- what would be; nothing changes

    public int shadeAt(int kiln, int position, int glaze, int peak)
            throws IndexOutOfBoundsException, IllegalArgumentException {
        checkIndex(isKiln(kiln) && isPosition(position) && isGlaze(glaze));
        checkArgument(isPeak(peak));
        int temperature = state.positions[kiln * POSITIONS + position].temperature(peak);
        return state.glazes[glaze].shadeFrom(temperature);
    }

    public int bestPeak(int kiln, int glaze, int shade) throws IndexOutOfBoundsException, IllegalArgumentException {
        checkIndex(isKiln(kiln) && isGlaze(glaze));
        checkArgument(isShade(shade));
        int best = NONE;
        int most = 0;
        for (int peak = MIN_PEAK; peak <= MAX_PEAK; peak++) {
            int count = state.positionsWithShade(kiln, glaze, peak, shade);
            if (count > most) {
                most = count;
                best = peak;
            }
        }
        return best;
    }

    public int largest(int glaze, int grade) throws IndexOutOfBoundsException, IllegalArgumentException {
        checkIndex(isGlaze(glaze));
        checkArgument(isGrade(grade));
        return state.fullestLots(glaze, grade)[0];
    }

    public int possible(int glaze, int grade, int a, int b, int c)
            throws IndexOutOfBoundsException, IllegalArgumentException {
        checkIndex(isGlaze(glaze));
        checkArgument(isGrade(grade) && isBoxCount(a) && isBoxCount(b) && isBoxCount(c));
        int[] wanted = {a, b, c};
        return mostPlaced(state.fullestLots(glaze, grade), wanted, 0);
    }

    public int wouldHide(int passes) throws IllegalArgumentException {
        checkArgument(isWithin(passes, 1, MAX_PASSES));
        return state.hiddenAfter(passes);
    }

    // ---- text

    public int append(int code) throws IllegalArgumentException, IllegalStateException {
        checkArgument(isWithin(code, MIN_CODE, MAX_CODE));
        checkState(script.length < MAX_TEXT);
        script.add((char) code);
        return script.length;
    }

    public int clear() {
        int previous = script.length;
        script.length = 0;
        return previous;
    }

    public int firstError() {
        return script.findError();
    }

    public int execute() throws IllegalStateException {
        checkState(script.findError() == NONE);
        history.save(state);
        int executed = runCommands();
        script.length = 0;
        return executed;
    }

    // ---- what the calls share

    private int runCommands() {
        int commands = script.countCommands();
        script.rewind();
        for (int number = 0; number < commands; number++) {
            script.readCommand();
            if (!runCommand(script.verb)) {
                return number;
            }
        }
        return commands;
    }

    /** Answers false, and changes nothing, if the command's method would throw. */
    private boolean runCommand(Verb verb) {
        int a = script.argument(0);
        int b = script.argument(1);
        int c = script.argument(2);
        int d = script.argument(3);
        if (verb == null || faultOfCommand(verb, a, b, c, d) != Fault.NOTHING) {
            return false;
        }
        switch (verb) {
            case FIRE:
                state.makeFiring(a, b, c, d);
                break;
            case GRADE:
                state.gradeBench(a);
                break;
            case PACK:
                state.packLots();
                break;
            case SHIP:
                state.makeDelivery(a, b, c);
                break;
            default:
                state.dropBox(a, b, c, d);
                break;
        }
        return true;
    }

    private Fault faultOfCommand(Verb verb, int a, int b, int c, int d) {
        switch (verb) {
            case FIRE:
                return state.faultOfFiring(a, b, c, d);
            case GRADE:
                return state.faultOfGrading(a);
            case PACK:
                return Fault.NOTHING;
            case SHIP:
                return state.faultOfDelivery(a, b, c);
            default:
                return state.faultOfDropping(a, b, c, d);
        }
    }

    /** The most of the wanted deliveries, from number next on, that find room; the rooms are as before afterwards. */
    private static int mostPlaced(int[] rooms, int[] wanted, int next) {
        if (next < 0 || next >= wanted.length) {
            return 0;
        }
        int boxes = wanted[next];
        int most = mostPlaced(rooms, wanted, next + 1);
        for (int i = 0; i < rooms.length; i++) {
            if (rooms[i] >= boxes) {
                rooms[i] -= boxes;
                most = Math.max(most, 1 + mostPlaced(rooms, wanted, next + 1));
                rooms[i] += boxes;
            }
        }
        return most;
    }

    private static boolean isWithin(int value, int least, int greatest) {
        return value >= least && value <= greatest;
    }

    private static boolean isPercentage(int value) {
        return isWithin(value, 0, 100);
    }

    private static boolean isGlaze(int glaze) {
        return isWithin(glaze, 0, GLAZES - 1);
    }

    private static boolean isShade(int shade) {
        return isWithin(shade, 0, SHADES - 1);
    }

    private static boolean isGrade(int grade) {
        return isWithin(grade, 1, GRADES);
    }

    private static boolean isKiln(int kiln) {
        return isWithin(kiln, 0, KILNS - 1);
    }

    private static boolean isPosition(int position) {
        return isWithin(position, 0, POSITIONS - 1);
    }

    private static boolean isPeak(int peak) {
        return isWithin(peak, MIN_PEAK, MAX_PEAK);
    }

    private static boolean isBoxCount(int boxes) {
        return isWithin(boxes, 1, MAX_BOXES);
    }

    private static void checkIndex(boolean good) {
        if (!good) {
            throw new IndexOutOfBoundsException("there is nothing with this number");
        }
    }

    private static void checkArgument(boolean good) {
        if (!good) {
            throw new IllegalArgumentException("an argument is out of range");
        }
    }

    private static void checkState(boolean good) {
        if (!good) {
            throw new IllegalStateException("the factory's state does not allow this call");
        }
    }

    private static void refuse(Fault fault) {
        checkIndex(fault != Fault.INDEX);
        checkArgument(fault != Fault.ARGUMENT);
        checkState(fault != Fault.STATE);
    }

    /** What keeps a call from being made; execute asks for it too, so it is not thrown where it is found. */
    private enum Fault { NOTHING, INDEX, ARGUMENT, STATE }

    private enum Verb {
        FIRE("fire", 4),
        GRADE("grade", 1),
        PACK("pack", 0),
        SHIP("ship", 3),
        DROP("drop", 4);

        final String word;
        final int arguments;

        Verb(String word, int arguments) {
            this.word = word;
            this.arguments = arguments;
        }
    }

    private static final class Glaze {
        int base = 8;
        int sensitivity = 10;
        int defects = 10;
        int price = 100;

        int shadeFrom(int temperature) {
            int shade = base + Math.floorDiv(sensitivity * (temperature - 1000), 100);
            return Math.max(0, Math.min(shade, SHADES - 1));
        }

        int tileValue(int grade) {
            return grade == 1 ? price : price / 2;
        }

        int property(int property) {
            switch (property) {
                case 0:
                    return base;
                case 1:
                    return sensitivity;
                case 2:
                    return defects;
                default:
                    return price;
            }
        }

        void copyFrom(Glaze other) {
            base = other.base;
            sensitivity = other.sensitivity;
            defects = other.defects;
            price = other.price;
        }
    }

    private static final class Position {
        /** What the place in its kiln adds to every temperature, beside the offset. */
        private final int slope;
        int offset;
        int breakage;
        int broken;

        Position(int slope) {
            this.slope = slope;
        }

        int temperature(int peak) {
            return peak + offset + slope;
        }

        int breakSome(int tiles) {
            int lost = tiles * breakage / 100;
            broken += lost;
            return lost;
        }

        int property(int property) {
            switch (property) {
                case 0:
                    return offset;
                case 1:
                    return breakage;
                default:
                    return broken;
            }
        }

        void copyFrom(Position other) {
            offset = other.offset;
            breakage = other.breakage;
            broken = other.broken;
        }
    }

    private static final class Pile {
        int glaze;
        int shade;
        int tiles;
        int hidden;

        boolean isOf(int wantedGlaze, int wantedShade) {
            return glaze == wantedGlaze && shade == wantedShade;
        }

        /** How many of the hidden defects so many passes find. */
        int foundBy(int passes, int sharpness) {
            int left = hidden;
            for (int pass = 0; pass < passes; pass++) {
                int found = (left * sharpness + 99) / 100;
                if (found == 0) {
                    break;
                }
                left -= found;
            }
            return hidden - left;
        }

        int property(int property) {
            switch (property) {
                case 0:
                    return glaze;
                case 1:
                    return shade;
                case 2:
                    return tiles;
                default:
                    return hidden;
            }
        }

        void begin(int newGlaze, int newShade) {
            glaze = newGlaze;
            shade = newShade;
            tiles = 0;
            hidden = 0;
        }

        void copyFrom(Pile other) {
            glaze = other.glaze;
            shade = other.shade;
            tiles = other.tiles;
            hidden = other.hidden;
        }
    }

    private static final class Lot {
        int glaze;
        int shade;
        int grade;
        int loose;
        int boxes;
        int hidden;

        boolean isOf(int wantedGlaze, int wantedGrade) {
            return glaze == wantedGlaze && grade == wantedGrade;
        }

        int content(int boxSize) {
            return loose + boxes * boxSize;
        }

        void limitHidden(int boxSize) {
            hidden = Math.min(hidden, content(boxSize));
        }

        int fillBoxes(int boxSize) {
            if (boxSize < 1) {
                return 0;
            }
            int filled = loose / boxSize;
            boxes += filled;
            loose -= filled * boxSize;
            return filled;
        }

        /** Takes full boxes out of the lot and answers how many of its hidden defects go with them. */
        int giveBoxes(int count, int boxSize) {
            int before = content(boxSize);
            long tiles = (long) count * boxSize;
            int complaints = before < 1 ? 0 : (int) (hidden * tiles / before);
            boxes -= count;
            hidden -= complaints;
            limitHidden(boxSize);
            return complaints;
        }

        int property(int property) {
            switch (property) {
                case 0:
                    return glaze;
                case 1:
                    return shade;
                case 2:
                    return grade;
                case 3:
                    return loose;
                case 4:
                    return boxes;
                default:
                    return hidden;
            }
        }

        void begin(int newGlaze, int newShade, int newGrade) {
            glaze = newGlaze;
            shade = newShade;
            grade = newGrade;
            loose = 0;
            boxes = 0;
            hidden = 0;
        }

        void copyFrom(Lot other) {
            glaze = other.glaze;
            shade = other.shade;
            grade = other.grade;
            loose = other.loose;
            boxes = other.boxes;
            hidden = other.hidden;
        }
    }

    private static final class Delivery {
        int lot;
        int boxes;
        int out;
        int complaints;
        long value;

        long property(int property) {
            switch (property) {
                case 0:
                    return lot;
                case 1:
                    return boxes;
                case 2:
                    return out;
                case 3:
                    return complaints;
                default:
                    return value;
            }
        }

        void copyFrom(Delivery other) {
            lot = other.lot;
            boxes = other.boxes;
            out = other.out;
            complaints = other.complaints;
            value = other.value;
        }
    }

    /** The latest events, the newest one first. */
    private static final class EventLog {
        private final int[] kinds = new int[MAX_EVENTS];
        private final int[] numbers = new int[MAX_EVENTS];
        private int count;

        void add(int kind, int number) {
            System.arraycopy(kinds, 0, kinds, 1, MAX_EVENTS - 1);
            System.arraycopy(numbers, 0, numbers, 1, MAX_EVENTS - 1);
            kinds[0] = kind;
            numbers[0] = number;
            count = Math.min(count + 1, MAX_EVENTS);
        }

        int kindOf(int index) {
            return has(index) ? kinds[index] : NONE;
        }

        int numberOf(int index) {
            return has(index) ? numbers[index] : NONE;
        }

        private boolean has(int index) {
            return index >= 0 && index < count && index < MAX_EVENTS;
        }

        void copyFrom(EventLog other) {
            System.arraycopy(other.kinds, 0, kinds, 0, MAX_EVENTS);
            System.arraycopy(other.numbers, 0, numbers, 0, MAX_EVENTS);
            count = other.count;
        }
    }

    /**
     * All that undo restores. Its rows are made once and used again, since every undoable call copies one State.
     * A method named faultOf.. must answer NOTHING before the method that it belongs to is called.
     */
    private static final class State {
        final Glaze[] glazes = new Glaze[GLAZES];
        final Position[] positions = new Position[KILNS * POSITIONS];
        final Pile[] piles = new Pile[GLAZES * SHADES];
        final Lot[] lots = new Lot[GLAZES * SHADES * GRADES];
        final Delivery[] deliveries = new Delivery[MAX_DELIVERIES];
        final EventLog events = new EventLog();
        int sharpness = 60;
        int boxSize = 10;
        private int pileCount;
        private int lotCount;
        private int deliveryCount;
        private int firings;
        private int fired;
        private int broken;

        State() {
            for (int i = 0; i < glazes.length; i++) {
                glazes[i] = new Glaze();
            }
            for (int i = 0; i < positions.length; i++) {
                boolean isSloped = i / POSITIONS == SLOPED_KILN;
                positions[i] = new Position(isSloped ? 5 * (i % POSITIONS - 3) : 0);
            }
            for (int i = 0; i < piles.length; i++) {
                piles[i] = new Pile();
            }
            for (int i = 0; i < lots.length; i++) {
                lots[i] = new Lot();
            }
            for (int i = 0; i < deliveries.length; i++) {
                deliveries[i] = new Delivery();
            }
        }

        void copyFrom(State other) {
            for (int i = 0; i < glazes.length; i++) {
                glazes[i].copyFrom(other.glazes[i]);
            }
            for (int i = 0; i < positions.length; i++) {
                positions[i].copyFrom(other.positions[i]);
            }
            pileCount = other.pileCount;
            for (int i = 0; i < pileCount; i++) {
                piles[i].copyFrom(other.piles[i]);
            }
            lotCount = other.lotCount;
            for (int i = 0; i < lotCount; i++) {
                lots[i].copyFrom(other.lots[i]);
            }
            deliveryCount = other.deliveryCount;
            for (int i = 0; i < deliveryCount; i++) {
                deliveries[i].copyFrom(other.deliveries[i]);
            }
            events.copyFrom(other.events);
            sharpness = other.sharpness;
            boxSize = other.boxSize;
            firings = other.firings;
            fired = other.fired;
            broken = other.broken;
        }

        // ---- kilns and bench

        Fault faultOfFiring(int kiln, int glaze, int peak, int tiles) {
            if (!isKiln(kiln) || !isGlaze(glaze)) {
                return Fault.INDEX;
            }
            if (!isPeak(peak) || !isWithin(tiles, 1, MAX_TILES)) {
                return Fault.ARGUMENT;
            }
            return firings < MAX_FIRINGS ? Fault.NOTHING : Fault.STATE;
        }

        /** Answers how many tiles break. */
        int makeFiring(int kiln, int glaze, int peak, int tiles) {
            if (!isKiln(kiln) || !isGlaze(glaze)) {
                return NONE;
            }
            Glaze used = glazes[glaze];
            int lost = 0;
            for (int place = 0; place < POSITIONS; place++) {
                Position position = positions[kiln * POSITIONS + place];
                int lostHere = position.breakSome(tiles);
                int whole = tiles - lostHere;
                addToBench(glaze, used.shadeFrom(position.temperature(peak)), whole, whole * used.defects / 100);
                lost += lostHere;
            }
            firings++;
            fired += tiles * POSITIONS;
            broken += lost;
            events.add(EVENT_FIRING, lost);
            return lost;
        }

        private void addToBench(int glaze, int shade, int tiles, int hidden) {
            if (tiles == 0) {
                return;
            }
            int index = indexOfPile(glaze, shade);
            if (index == NONE && pileCount < piles.length) {
                index = pileCount;
                pileCount++;
                piles[index].begin(glaze, shade);
            }
            if (hasPile(index)) {
                piles[index].tiles += tiles;
                piles[index].hidden += hidden;
            }
        }

        private int indexOfPile(int glaze, int shade) {
            for (int i = 0; i < pileCount; i++) {
                if (piles[i].isOf(glaze, shade)) {
                    return i;
                }
            }
            return NONE;
        }

        boolean hasPile(int pile) {
            return pile >= 0 && pile < pileCount && pile < piles.length;
        }

        int positionsWithShade(int kiln, int glaze, int peak, int shade) {
            if (!isKiln(kiln) || !isGlaze(glaze)) {
                return 0;
            }
            int count = 0;
            for (int place = 0; place < POSITIONS; place++) {
                int temperature = positions[kiln * POSITIONS + place].temperature(peak);
                if (glazes[glaze].shadeFrom(temperature) == shade) {
                    count++;
                }
            }
            return count;
        }

        Fault faultOfGrading(int passes) {
            if (!isWithin(passes, 1, MAX_PASSES)) {
                return Fault.ARGUMENT;
            }
            return pileCount > 0 ? Fault.NOTHING : Fault.STATE;
        }

        /** Answers how many second grade tiles are found. */
        int gradeBench(int passes) {
            int found = 0;
            for (int i = 0; i < pileCount; i++) {
                Pile pile = piles[i];
                int second = pile.foundBy(passes, sharpness);
                addLoose(pile.glaze, pile.shade, 1, pile.tiles - second, pile.hidden - second);
                addLoose(pile.glaze, pile.shade, 2, second, 0);
                found += second;
            }
            pileCount = 0;
            events.add(EVENT_GRADING, found);
            return found;
        }

        int hiddenAfter(int passes) {
            int left = 0;
            for (int i = 0; i < pileCount; i++) {
                left += piles[i].hidden - piles[i].foundBy(passes, sharpness);
            }
            return left;
        }

        // ---- lots

        private void addLoose(int glaze, int shade, int grade, int tiles, int hidden) {
            if (tiles == 0) {
                return;
            }
            int index = indexOfLot(glaze, shade, grade);
            if (index == NONE && lotCount < lots.length) {
                index = lotCount;
                lotCount++;
                lots[index].begin(glaze, shade, grade);
            }
            if (hasLot(index)) {
                lots[index].loose += tiles;
                lots[index].hidden += hidden;
            }
        }

        int indexOfLot(int glaze, int shade, int grade) {
            for (int i = 0; i < lotCount; i++) {
                if (lots[i].isOf(glaze, grade) && lots[i].shade == shade) {
                    return i;
                }
            }
            return NONE;
        }

        boolean hasLot(int lot) {
            return lot >= 0 && lot < lotCount && lot < lots.length;
        }

        int lotsOfGlaze(int glaze) {
            int count = 0;
            for (int i = 0; i < lotCount; i++) {
                if (lots[i].glaze == glaze) {
                    count++;
                }
            }
            return count;
        }

        int contentOf(int glaze, int grade) {
            int tiles = 0;
            for (int i = 0; i < lotCount; i++) {
                if (lots[i].isOf(glaze, grade)) {
                    tiles += lots[i].content(boxSize);
                }
            }
            return tiles;
        }

        /** Answers how many boxes are filled. */
        int packLots() {
            int filled = 0;
            for (int i = 0; i < lotCount; i++) {
                filled += lots[i].fillBoxes(boxSize);
            }
            return filled;
        }

        /** The boxes of the three fullest lots, most first: three deliveries never need more lots than these. */
        int[] fullestLots(int glaze, int grade) {
            int[] fullest = new int[3];
            for (int i = 0; i < lotCount; i++) {
                if (lots[i].isOf(glaze, grade)) {
                    insert(fullest, lots[i].boxes);
                }
            }
            return fullest;
        }

        private static void insert(int[] descending, int number) {
            int held = number;
            for (int i = 0; i < descending.length; i++) {
                if (held > descending[i]) {
                    int smaller = descending[i];
                    descending[i] = held;
                    held = smaller;
                }
            }
        }

        // ---- deliveries, breaking, returns

        boolean hasDelivery(int delivery) {
            return delivery >= 0 && delivery < deliveryCount && delivery < deliveries.length;
        }

        Fault faultOfDelivery(int glaze, int grade, int boxes) {
            if (!isGlaze(glaze)) {
                return Fault.INDEX;
            }
            if (!isGrade(grade) || !isBoxCount(boxes)) {
                return Fault.ARGUMENT;
            }
            boolean isLeft = deliveryCount < MAX_DELIVERIES;
            return isLeft && lotToDeliver(glaze, grade, boxes) != NONE ? Fault.NOTHING : Fault.STATE;
        }

        private int lotToDeliver(int glaze, int grade, int boxes) {
            int best = NONE;
            for (int i = 0; i < lotCount; i++) {
                Lot lot = lots[i];
                boolean fits = lot.isOf(glaze, grade) && lot.boxes >= boxes;
                if (fits && (!hasLot(best) || isBetter(lot, lots[best]))) {
                    best = i;
                }
            }
            return best;
        }

        private static boolean isBetter(Lot one, Lot other) {
            return one.boxes < other.boxes || (one.boxes == other.boxes && one.shade < other.shade);
        }

        /** Answers the number of the delivery. */
        int makeDelivery(int glaze, int grade, int boxes) {
            int chosen = lotToDeliver(glaze, grade, boxes);
            if (!isGlaze(glaze) || !hasLot(chosen) || deliveryCount >= deliveries.length) {
                return NONE;
            }
            int number = deliveryCount;
            deliveryCount++;
            Delivery delivery = deliveries[number];
            delivery.lot = chosen;
            delivery.boxes = boxes;
            delivery.out = boxes;
            delivery.complaints = lots[chosen].giveBoxes(boxes, boxSize);
            delivery.value = (long) boxes * boxSize * glazes[glaze].tileValue(grade);
            events.add(EVENT_DELIVERY, number);
            return number;
        }

        Fault faultOfDropping(int glaze, int shade, int grade, int lost) {
            int index = indexOfLot(glaze, shade, grade);
            if (!hasLot(index)) {
                return Fault.INDEX;
            }
            if (!isWithin(lost, 0, boxSize)) {
                return Fault.ARGUMENT;
            }
            return lots[index].boxes > 0 ? Fault.NOTHING : Fault.STATE;
        }

        /** Answers how many boxes the lot still has. */
        int dropBox(int glaze, int shade, int grade, int lost) {
            int index = indexOfLot(glaze, shade, grade);
            if (!hasLot(index)) {
                return NONE;
            }
            Lot lot = lots[index];
            lot.boxes--;
            lot.loose += boxSize - lost;
            lot.limitHidden(boxSize);
            breakOtherwise(lost);
            return lot.boxes;
        }

        private void breakOtherwise(int tiles) {
            if (tiles > 0) {
                broken += tiles;
                events.add(EVENT_BREAKING, tiles);
            }
        }

        Fault faultOfReturn(int number, int boxes, int lost) {
            if (!hasDelivery(number)) {
                return Fault.INDEX;
            }
            if (!isBoxCount(boxes) || !isWithin(lost, 0, boxes * boxSize)) {
                return Fault.ARGUMENT;
            }
            return boxes <= deliveries[number].out ? Fault.NOTHING : Fault.STATE;
        }

        /** Answers how many boxes of the delivery are still out. */
        int openReturned(int number, int boxes, int lost) {
            if (!hasDelivery(number) || !hasLot(deliveries[number].lot)) {
                return NONE;
            }
            Delivery delivery = deliveries[number];
            delivery.out -= boxes;
            lots[delivery.lot].loose += boxes * boxSize - lost;
            breakOtherwise(lost);
            return delivery.out;
        }

        Fault faultOfReplacing(int number) {
            if (!hasDelivery(number)) {
                return Fault.INDEX;
            }
            Delivery delivery = deliveries[number];
            boolean hasTiles = hasLot(delivery.lot) && lots[delivery.lot].loose >= delivery.complaints;
            return delivery.complaints > 0 && hasTiles ? Fault.NOTHING : Fault.STATE;
        }

        /** Answers how many tiles are replaced. */
        int replaceComplaints(int number) {
            if (!hasDelivery(number) || !hasLot(deliveries[number].lot)) {
                return NONE;
            }
            Delivery delivery = deliveries[number];
            Lot lot = lots[delivery.lot];
            int replaced = delivery.complaints;
            delivery.complaints = 0;
            lot.loose -= replaced;
            lot.limitHidden(boxSize);
            breakOtherwise(replaced);
            return replaced;
        }

        // ---- totals

        long sum(int property) {
            switch (property) {
                case 0:
                    return sharpness;
                case 1:
                    return boxSize;
                case 2:
                    return firings;
                case 3:
                    return fired;
                case 4:
                    return broken;
                case 5:
                    return tilesOnBench();
                case 6:
                    return looseTiles();
                case 7:
                    return boxesInLots();
                case 8:
                    return boxesOut() * boxSize;
                case 9:
                    return pileCount;
                case 10:
                    return lotCount;
                case 11:
                    return deliveryCount;
                case 13:
                    return presentValue();
                default:
                    return deliveredValue();
            }
        }

        private int tilesOnBench() {
            int tiles = 0;
            for (int i = 0; i < pileCount; i++) {
                tiles += piles[i].tiles;
            }
            return tiles;
        }

        private int looseTiles() {
            int tiles = 0;
            for (int i = 0; i < lotCount; i++) {
                tiles += lots[i].loose;
            }
            return tiles;
        }

        int boxesInLots() {
            int boxes = 0;
            for (int i = 0; i < lotCount; i++) {
                boxes += lots[i].boxes;
            }
            return boxes;
        }

        int boxesOut() {
            int boxes = 0;
            for (int i = 0; i < deliveryCount; i++) {
                boxes += deliveries[i].out;
            }
            return boxes;
        }

        private long presentValue() {
            long value = 0;
            for (int glaze = 0; glaze < glazes.length; glaze++) {
                for (int grade = 1; grade <= GRADES; grade++) {
                    value += (long) contentOf(glaze, grade) * glazes[glaze].tileValue(grade);
                }
            }
            return value;
        }

        private long deliveredValue() {
            long value = 0;
            for (int i = 0; i < deliveryCount; i++) {
                value += deliveries[i].value;
            }
            return value;
        }
    }

    /** The states that undo goes back to, the oldest one first. A State is made when its place is first needed. */
    private static final class History {
        private final State[] saved = new State[MAX_SAVED];
        int count;

        void save(State state) {
            if (count >= saved.length) {
                moveOldestToEnd();
                count = saved.length - 1;
            }
            if (saved[count] == null) {
                saved[count] = new State();
            }
            saved[count].copyFrom(state);
            count++;
        }

        /** The oldest state is overwritten there by the newest one. */
        private void moveOldestToEnd() {
            State oldest = saved[0];
            for (int i = 1; i < saved.length; i++) {
                saved[i - 1] = saved[i];
            }
            saved[saved.length - 1] = oldest;
        }

        void restore(State state) {
            if (count < 1 || count > saved.length || saved[count - 1] == null) {
                return;
            }
            count--;
            state.copyFrom(saved[count]);
        }
    }

    /** The buffer, and the command of its text that was read last. */
    private static final class Script {
        private final char[] signs = new char[MAX_TEXT];
        int length;

        private int next;
        private int words;
        private boolean hasOnlyNumbers;
        private final int[] arguments = new int[4];
        Verb verb;

        void add(char sign) {
            if (length >= 0 && length < signs.length) {
                signs[length] = sign;
                length++;
            }
        }

        int countCommands() {
            int commands = 1;
            for (int i = 0; i < length; i++) {
                if (signs[i] == ';') {
                    commands++;
                }
            }
            return commands;
        }

        int findError() {
            int commands = countCommands();
            rewind();
            for (int number = 0; number < commands; number++) {
                readCommand();
                int error = kindOfError();
                if (error != 0) {
                    return 10 * number + error;
                }
            }
            return NONE;
        }

        void rewind() {
            next = 0;
        }

        /** Reads the command that begins at next; next is behind its semicolon then. */
        void readCommand() {
            verb = null;
            words = 0;
            hasOnlyNumbers = true;
            int start = NONE;
            int end = endOfCommand();
            for (int i = next; i < end; i++) {
                boolean isBlank = signs[i] == ' ';
                if (isBlank && start != NONE) {
                    readWord(start, i);
                    start = NONE;
                } else if (!isBlank && start == NONE) {
                    start = i;
                }
            }
            if (start != NONE) {
                readWord(start, end);
            }
            next = end + 1;
        }

        private int endOfCommand() {
            for (int i = next; i < length; i++) {
                if (signs[i] == ';') {
                    return i;
                }
            }
            return length;
        }

        private void readWord(int start, int end) {
            if (words == 0) {
                verb = verbAt(start, end);
            } else {
                readArgument(start, end);
            }
            words++;
        }

        private Verb verbAt(int start, int end) {
            for (int i = 0; i < VERBS.length; i++) {
                if (isWord(VERBS[i].word, start, end)) {
                    return VERBS[i];
                }
            }
            return null;
        }

        private boolean isWord(String word, int start, int end) {
            if (word.length() != end - start) {
                return false;
            }
            for (int i = 0; i < word.length(); i++) {
                if (word.charAt(i) != signs[start + i]) {
                    return false;
                }
            }
            return true;
        }

        private void readArgument(int start, int end) {
            int number = numberAt(start, end);
            if (number == NONE) {
                hasOnlyNumbers = false;
            }
            int place = words - 1;
            if (place >= 0 && place < arguments.length) {
                arguments[place] = number;
            }
        }

        int argument(int place) {
            return place >= 0 && place < arguments.length ? arguments[place] : NONE;
        }

        /** NONE if the word is no number of 1 to 4 digits. */
        private int numberAt(int start, int end) {
            if (end - start < 1 || end - start > 4) {
                return NONE;
            }
            int number = 0;
            for (int i = start; i < end; i++) {
                if (signs[i] < '0' || signs[i] > '9') {
                    return NONE;
                }
                number = 10 * number + (signs[i] - '0');
            }
            return number;
        }

        /** The kind of the error of the command that was read last; 0 if it has none. */
        private int kindOfError() {
            if (verb == null) {
                return 1;
            }
            if (words - 1 != verb.arguments) {
                return 2;
            }
            return hasOnlyNumbers ? 0 : 3;
        }
    }
}
