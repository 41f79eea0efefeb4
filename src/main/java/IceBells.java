import java.util.NoSuchElementException;

/** Lakes whose ice rings: layers with temperatures and strains, cracks, thaw windows, and recorded peals. */
public final class IceBells {
    private static final int LAKES = 5;
    private static final int LEAST_DEPTH = 20;
    private static final int GREATEST_DEPTH = 400;

    private static final int LAYERS = 8;
    private static final int GREATEST_THICKNESS = 50;
    private static final int HALVINGS = 8;

    private static final int COLDEST = -40;
    private static final int MELTING = 0;
    private static final int WARMEST_AIR = 20;

    private static final int CRACKING_STRAIN = 30;
    private static final int NEIGHBOUR_STRAIN = 5;
    private static final int SHOWN_STRAIN = 10;

    private static final int GREATEST_PASS = 48;
    private static final int FORESEEN_HOURS = 96;

    private static final int WINDOWS = 6;
    private static final int GREATEST_FIRST_HOUR = 9999;

    private static final int PEALS = 16;
    private static final int PITCH_DIVIDEND = 100;
    // The highest pitch is that of the thinnest layer, 100, plus 40 for the coldest one.
    private static final int PITCHES = PITCH_DIVIDEND - COLDEST + 1;
    private static final char CRACK = 'c';
    private static final char STRIKE = 's';

    private static final int UNDOABLE = 8;

    private static final int TEXT_LENGTH = 60;
    private static final int LEAST_CODE = 32;
    private static final int GREATEST_CODE = 126;
    // The shortest command, "air 0", has 5 characters.
    private static final int COMMANDS = TEXT_LENGTH / 5;
    private static final int PARAMETERS = 3;
    private static final int NUMBER_DIGITS = 3;

    // The placeholders of the command forms: capitals, as the keywords have none.
    private static final char DIGIT = 'D';
    private static final char NUMBER = 'N';
    private static final char DEGREES = 'T';

    // The faults that a change can have; all but FINE are the letters that failureKind() answers.
    private static final char FINE = '-';
    private static final char BAD_INDEX = 'b';
    private static final char BAD_ARGUMENT = 'a';
    private static final char BAD_STATE = 's';
    private static final char UNSUPPORTED = 'u';

    private static final int NONE = -1;

    private static final Kind[] KINDS = Kind.values();

    private final Landscape now = new Landscape();
    // Hours and commands that may come to nothing are tried on this one.
    private final Landscape trial = new Landscape();
    private final Landscape snapshot = new Landscape();
    private boolean hasSnapshot = false;
    private final History history = new History();
    private final CommandText commandText = new CommandText();
    private int errorPosition = NONE;
    private int failedCommand = NONE;
    private char failureKind = FINE;
    private final StringBuilder line = new StringBuilder();
    private final int[] pitchTally = new int[PITCHES];

    public IceBells() {
    }

    // ---- lakes and layers

    public int addLake(int depth) throws IllegalArgumentException, IllegalStateException {
        refuseOn(now.placeFault(depth));
        history.remember(now);
        return now.placeLake(depth);
    }

    public int freeze(int lake, int thickness, int temperature) throws IndexOutOfBoundsException,
            IllegalArgumentException, IllegalStateException, UnsupportedOperationException {
        refuseOn(now.growFault(lake, thickness, temperature));
        history.remember(now);
        return now.growLayer(lake, thickness, temperature);
    }

    public int lakeCount() {
        return now.lakeCount;
    }

    public int depth(int lake) throws IndexOutOfBoundsException {
        return lakeNumbered(lake).depth;
    }

    public int layerCount(int lake) throws IndexOutOfBoundsException {
        return lakeNumbered(lake).layerCount;
    }

    public int thickness(int lake, int layer) throws IndexOutOfBoundsException {
        return lakeWithLayer(lake, layer).thickness[layer];
    }

    public int temperature(int lake, int layer) throws IndexOutOfBoundsException {
        return lakeWithLayer(lake, layer).temperature[layer];
    }

    public int strain(int lake, int layer) throws IndexOutOfBoundsException {
        return lakeWithLayer(lake, layer).strain[layer];
    }

    public int iceThickness(int lake) throws IndexOutOfBoundsException {
        return lakeNumbered(lake).iceByLayers();
    }

    public int iceThicknessByHalves(int lake) throws IndexOutOfBoundsException {
        return lakeNumbered(lake).iceByHalves();
    }

    public int layerAt(int lake, int centimetres) throws IndexOutOfBoundsException, NoSuchElementException {
        int layer = lakeNumbered(lake).layerContaining(centimetres);
        if (layer == NONE) {
            throw new NoSuchElementException("there is no ice at this depth");
        }
        return layer;
    }

    // ---- weather

    public int setAir(int temperature) throws IllegalArgumentException {
        refuseOn(now.airFault(temperature));
        history.remember(now);
        return now.changeAir(temperature);
    }

    public int air() {
        return now.air;
    }

    public int pass(int hours) throws IllegalArgumentException {
        refuseOn(now.passFault(hours));
        history.remember(now);
        return now.letHoursPass(hours);
    }

    public int hour() {
        return now.hour;
    }

    public int hoursUntilCrack() throws NoSuchElementException {
        trial.copyFrom(now);
        for (int hours = 1; hours <= FORESEEN_HOURS; hours++) {
            if (trial.letHourPass() > 0) {
                return hours;
            }
        }
        throw new NoSuchElementException("no crack would happen soon");
    }

    public int hoursUntilThawed(int lake) throws IndexOutOfBoundsException, NoSuchElementException {
        if (lakeNumbered(lake).layerCount == 0) {
            return 0;
        }
        trial.copyFrom(now);
        for (int hours = 1; hours <= FORESEEN_HOURS; hours++) {
            trial.letHourPass();
            if (trial.lakes[lake].layerCount == 0) {
                return hours;
            }
        }
        throw new NoSuchElementException("the lake would have ice for long");
    }

    // ---- thaw windows

    public int addWindow(int first, int last) throws IllegalArgumentException, IllegalStateException,
            UnsupportedOperationException {
        refuseOn(now.windowFault(first, last));
        history.remember(now);
        return now.windows.insert(first, last);
    }

    public int removeWindow(int position) throws IndexOutOfBoundsException {
        refuseOn(now.openFault(position));
        history.remember(now);
        return now.windows.removeAt(position);
    }

    public int windowCount() {
        return now.windows.count;
    }

    public int windowFirst(int position) throws IndexOutOfBoundsException {
        refuseOn(now.openFault(position));
        return now.windows.first[position];
    }

    public int windowLast(int position) throws IndexOutOfBoundsException {
        refuseOn(now.openFault(position));
        return now.windows.last[position];
    }

    public boolean isInWindow(int hour) {
        return now.windows.contain(hour);
    }

    // ---- cracks and peals

    public int strike(int lake, int layer) throws IndexOutOfBoundsException, UnsupportedOperationException {
        refuseOn(now.ringFault(lake, layer));
        history.remember(now);
        return now.ring(lake, layer);
    }

    public int pitch(int lake, int layer) throws IndexOutOfBoundsException, UnsupportedOperationException {
        refuseOn(now.ringFault(lake, layer));
        return now.lakes[lake].pitchOf(layer);
    }

    public int pealCount() {
        return now.peals.count;
    }

    public char pealKind(int recency) throws NoSuchElementException {
        return now.peals.kind[pealSlot(recency)];
    }

    public int pealLake(int recency) throws NoSuchElementException {
        return now.peals.lake[pealSlot(recency)];
    }

    public int pealPitch(int recency) throws NoSuchElementException {
        return now.peals.pitch[pealSlot(recency)];
    }

    public int pealHour(int recency) throws NoSuchElementException {
        return now.peals.hour[pealSlot(recency)];
    }

    public int echoPairs() {
        return now.peals.pairsByComparing();
    }

    public int echoPairsByPitch() {
        return now.peals.pairsByCounting(pitchTally);
    }

    public int pitchCount() {
        return now.peals.differentPitches(pitchTally);
    }

    public int cracksOf(int lake) throws IndexOutOfBoundsException {
        return lakeNumbered(lake).cracks;
    }

    // ---- totals and ranks

    public int lakeAtRank(int rank) throws NoSuchElementException {
        int lake = now.lakeRanked(rank);
        if (lake == NONE) {
            throw new NoSuchElementException("there is no such rank");
        }
        return lake;
    }

    public int frozenTotal() {
        return now.frozen;
    }

    public int thawedTotal() {
        return now.thawed;
    }

    public int crackTotal() {
        return now.allCracks();
    }

    // ---- commands

    public int append(char character) throws IllegalArgumentException, IllegalStateException {
        if (character < LEAST_CODE || character > GREATEST_CODE) {
            throw new IllegalArgumentException("the character is not printable");
        }
        if (commandText.isFull()) {
            throw new IllegalStateException("the command text is full");
        }
        return commandText.add(character);
    }

    public int run() throws IllegalArgumentException, IllegalStateException {
        boolean wellFormed = commandText.parse();
        commandText.clear();
        if (!wellFormed) {
            errorPosition = commandText.position;
            throw new IllegalArgumentException("this is not a command text");
        }
        trial.copyFrom(now);
        int count = commandText.commandCount;
        for (int i = 0; i < count; i++) {
            Command command = commandText.commands[i];
            char fault = trial.commandFault(command);
            if (fault != FINE) {
                failedCommand = i;
                failureKind = fault;
                throw new IllegalStateException("a command fails");
            }
            trial.carryOut(command);
        }
        history.remember(now);
        now.copyFrom(trial);
        return count;
    }

    public int errorPosition() throws NoSuchElementException {
        if (errorPosition == NONE) {
            throw new NoSuchElementException("no error position was set");
        }
        return errorPosition;
    }

    public int failedCommand() throws NoSuchElementException {
        if (failedCommand == NONE) {
            throw new NoSuchElementException("no command has failed");
        }
        return failedCommand;
    }

    public char failureKind() throws NoSuchElementException {
        if (failedCommand == NONE) {
            throw new NoSuchElementException("no command has failed");
        }
        return failureKind;
    }

    // ---- line, statistics, undo, snapshot

    public int describeLake(int lake) throws IndexOutOfBoundsException {
        Lake described = lakeNumbered(lake);
        line.setLength(0);
        described.writeTo(line);
        return line.length();
    }

    public char lineAt(int index) throws IndexOutOfBoundsException {
        if (index < 0 || index >= line.length()) {
            throw new IndexOutOfBoundsException("there is no such character");
        }
        return line.charAt(index);
    }

    public double meanTemperature(int lake) throws IndexOutOfBoundsException, ArithmeticException {
        Lake measured = lakeNumbered(lake);
        if (measured.layerCount == 0) {
            throw new ArithmeticException("the lake has no ice");
        }
        return (double) measured.temperatureSum() / (double) measured.layerCount;
    }

    public float iceShare(int lake) throws IndexOutOfBoundsException {
        Lake measured = lakeNumbered(lake);
        return (float) measured.iceByLayers() / (float) measured.depth;
    }

    public boolean isConsistent() {
        return now.bothSumsAgree()
                && now.peals.pairsByComparing() == now.peals.pairsByCounting(pitchTally)
                && now.frozen - now.thawed == now.allIce();
    }

    public int undo() throws IllegalStateException {
        if (history.count == 0) {
            throw new IllegalStateException("there is no change to undo");
        }
        return history.takeBack(now);
    }

    public int save() {
        snapshot.copyFrom(now);
        hasSnapshot = true;
        return now.lakeCount;
    }

    public int restore() throws IllegalStateException {
        if (!hasSnapshot) {
            throw new IllegalStateException("there is no snapshot");
        }
        now.copyFrom(snapshot);
        history.forget();
        return now.lakeCount;
    }

    // ---- looking up, or refusing

    private Lake lakeNumbered(int lake) throws IndexOutOfBoundsException {
        if (!now.hasLake(lake)) {
            throw new IndexOutOfBoundsException("there is no such lake");
        }
        return now.lakes[lake];
    }

    private Lake lakeWithLayer(int lake, int layer) throws IndexOutOfBoundsException {
        Lake found = lakeNumbered(lake);
        if (!found.hasLayer(layer)) {
            throw new IndexOutOfBoundsException("there is no such layer");
        }
        return found;
    }

    private int pealSlot(int recency) throws NoSuchElementException {
        if (recency < 0 || recency >= now.peals.count) {
            throw new NoSuchElementException("there is no such peal");
        }
        return now.peals.slotOf(recency);
    }

    private static void refuseOn(char fault) throws IndexOutOfBoundsException, IllegalArgumentException,
            IllegalStateException, UnsupportedOperationException {
        if (fault == BAD_INDEX) {
            throw new IndexOutOfBoundsException("there is no such lake, layer or position");
        }
        if (fault == BAD_ARGUMENT) {
            throw new IllegalArgumentException("a number is out of range");
        }
        if (fault == BAD_STATE) {
            throw new IllegalStateException("there is no room or it is too late");
        }
        if (fault == UNSUPPORTED) {
            throw new UnsupportedOperationException("the ice or the window does not allow this");
        }
    }

    /** Everything that changes can change: what is undone, saved and tried out as a whole. */
    private static final class Landscape {
        final Lake[] lakes = new Lake[LAKES];
        int lakeCount = 0;
        int air = 0;
        int hour = 0;
        int frozen = 0;
        int thawed = 0;
        final Windows windows = new Windows();
        final Peals peals = new Peals();

        Landscape() {
            for (int i = 0; i < LAKES; i++) {
                lakes[i] = new Lake();
            }
        }

        void copyFrom(Landscape other) {
            for (int i = 0; i < other.lakeCount; i++) {
                lakes[i].copyFrom(other.lakes[i]);
            }
            lakeCount = other.lakeCount;
            air = other.air;
            hour = other.hour;
            frozen = other.frozen;
            thawed = other.thawed;
            windows.copyFrom(other.windows);
            peals.copyFrom(other.peals);
        }

        boolean hasLake(int lake) {
            return lake >= 0 && lake < lakeCount;
        }

        char placeFault(int depth) {
            if (depth < LEAST_DEPTH || depth > GREATEST_DEPTH) {
                return BAD_ARGUMENT;
            }
            return lakeCount < LAKES ? FINE : BAD_STATE;
        }

        int placeLake(int depth) {
            int lake = lakeCount;
            lakes[lake].begin(depth);
            lakeCount++;
            return lake;
        }

        char growFault(int lake, int thickness, int temperature) {
            if (!hasLake(lake)) {
                return BAD_INDEX;
            }
            if (thickness < 1 || thickness > GREATEST_THICKNESS || temperature < COLDEST || temperature > MELTING) {
                return BAD_ARGUMENT;
            }
            if (lakes[lake].layerCount >= LAYERS) {
                return BAD_STATE;
            }
            int grown = lakes[lake].iceByLayers() + thickness;
            return 2 * grown > lakes[lake].depth ? UNSUPPORTED : FINE;
        }

        int growLayer(int lake, int thickness, int temperature) {
            frozen += thickness;
            return lakes[lake].addLayer(thickness, temperature);
        }

        char airFault(int temperature) {
            return temperature < COLDEST || temperature > WARMEST_AIR ? BAD_ARGUMENT : FINE;
        }

        int changeAir(int temperature) {
            int previous = air;
            air = temperature;
            return previous;
        }

        char passFault(int hours) {
            return hours < 1 || hours > GREATEST_PASS ? BAD_ARGUMENT : FINE;
        }

        int letHoursPass(int hours) {
            int cracks = 0;
            for (int i = 0; i < hours; i++) {
                cracks += letHourPass();
            }
            return cracks;
        }

        int letHourPass() {
            hour++;
            boolean strainRests = windows.contain(hour);
            int cracks = 0;
            for (int i = 0; i < lakeCount; i++) {
                Lake lake = lakes[i];
                lake.moveTemperatures(air);
                if (!strainRests) {
                    lake.addStrains();
                }
                cracks += lake.crackLayers(i, hour, peals);
                thawed += lake.thawTop(air);
            }
            return cracks;
        }

        char windowFault(int first, int last) {
            if (first > last || first > GREATEST_FIRST_HOUR) {
                return BAD_ARGUMENT;
            }
            if (windows.count >= WINDOWS || first <= hour) {
                return BAD_STATE;
            }
            return windows.meet(first, last) ? UNSUPPORTED : FINE;
        }

        char openFault(int position) {
            return windows.hasPosition(position) ? FINE : BAD_INDEX;
        }

        char ringFault(int lake, int layer) {
            if (!hasLake(lake) || !lakes[lake].hasLayer(layer)) {
                return BAD_INDEX;
            }
            return lakes[lake].temperature[layer] == MELTING ? UNSUPPORTED : FINE;
        }

        int ring(int lake, int layer) {
            int pitch = lakes[lake].pitchOf(layer);
            peals.record(STRIKE, lake, pitch, hour);
            return pitch;
        }

        char commandFault(Command command) {
            int[] n = command.numbers;
            switch (command.kind) {
                case LAKE:
                    return placeFault(n[0]);
                case FREEZE:
                    return growFault(n[0], n[1], n[2]);
                case AIR:
                    return airFault(n[0]);
                case PASS:
                    return passFault(n[0]);
                case WINDOW:
                    return windowFault(n[0], n[1]);
                case OPEN:
                    return openFault(n[0]);
                default:
                    return ringFault(n[0], n[1]);
            }
        }

        void carryOut(Command command) {
            int[] n = command.numbers;
            switch (command.kind) {
                case LAKE:
                    placeLake(n[0]);
                    break;
                case FREEZE:
                    growLayer(n[0], n[1], n[2]);
                    break;
                case AIR:
                    changeAir(n[0]);
                    break;
                case PASS:
                    letHoursPass(n[0]);
                    break;
                case WINDOW:
                    windows.insert(n[0], n[1]);
                    break;
                case OPEN:
                    windows.removeAt(n[0]);
                    break;
                default:
                    ring(n[0], n[1]);
                    break;
            }
        }

        int lakeRanked(int rank) {
            for (int i = 0; i < lakeCount; i++) {
                if (rankOf(i) == rank) {
                    return i;
                }
            }
            return NONE;
        }

        private int rankOf(int lake) {
            int rank = 0;
            for (int i = 0; i < lakeCount; i++) {
                if (i != lake && ranksBefore(i, lake)) {
                    rank++;
                }
            }
            return rank;
        }

        private boolean ranksBefore(int one, int other) {
            int ice = lakes[one].iceByLayers();
            int otherIce = lakes[other].iceByLayers();
            if (ice != otherIce) {
                return ice > otherIce;
            }
            if (lakes[one].cracks != lakes[other].cracks) {
                return lakes[one].cracks > lakes[other].cracks;
            }
            return one < other;
        }

        int allCracks() {
            int sum = 0;
            for (int i = 0; i < lakeCount; i++) {
                sum += lakes[i].cracks;
            }
            return sum;
        }

        int allIce() {
            int sum = 0;
            for (int i = 0; i < lakeCount; i++) {
                sum += lakes[i].iceByLayers();
            }
            return sum;
        }

        boolean bothSumsAgree() {
            for (int i = 0; i < lakeCount; i++) {
                if (lakes[i].iceByLayers() != lakes[i].iceByHalves()) {
                    return false;
                }
            }
            return true;
        }
    }

    private static final class Lake {
        final int[] thickness = new int[LAYERS];
        final int[] temperature = new int[LAYERS];
        final int[] strain = new int[LAYERS];
        int layerCount = 0;
        int depth = LEAST_DEPTH;
        int cracks = 0;

        void begin(int newDepth) {
            depth = newDepth;
            layerCount = 0;
            cracks = 0;
        }

        void copyFrom(Lake other) {
            System.arraycopy(other.thickness, 0, thickness, 0, LAYERS);
            System.arraycopy(other.temperature, 0, temperature, 0, LAYERS);
            System.arraycopy(other.strain, 0, strain, 0, LAYERS);
            layerCount = other.layerCount;
            depth = other.depth;
            cracks = other.cracks;
        }

        boolean hasLayer(int layer) {
            return layer >= 0 && layer < layerCount;
        }

        int addLayer(int newThickness, int newTemperature) {
            thickness[layerCount] = newThickness;
            temperature[layerCount] = newTemperature;
            strain[layerCount] = 0;
            layerCount++;
            return layerCount;
        }

        int iceByLayers() {
            return sumOfLayers(thickness);
        }

        int iceByHalves() {
            return sumOfHalves(thickness, 0, layerCount, 0);
        }

        private static int sumOfHalves(int[] row, int from, int end, int halvings) {
            if (from < 0 || from >= end || end > row.length || halvings > HALVINGS) {
                return 0;
            }
            if (end - from == 1) {
                return row[from];
            }
            int middle = from + (end - from) / 2;
            return sumOfHalves(row, from, middle, halvings + 1) + sumOfHalves(row, middle, end, halvings + 1);
        }

        int layerContaining(int centimetres) {
            if (centimetres < 0) {
                return NONE;
            }
            int bottom = 0;
            for (int i = 0; i < layerCount; i++) {
                bottom += thickness[i];
                if (centimetres < bottom) {
                    return i;
                }
            }
            return NONE;
        }

        int temperatureSum() {
            return sumOfLayers(temperature);
        }

        private int sumOfLayers(int[] row) {
            int sum = 0;
            for (int i = 0; i < layerCount; i++) {
                sum += row[i];
            }
            return sum;
        }

        void moveTemperatures(int air) {
            int above = air;
            for (int i = 0; i < layerCount; i++) {
                int own = temperature[i];
                int target = (above + temperatureBeneath(i)) / 2;
                if (own < target && own < MELTING) {
                    temperature[i] = own + 1;
                } else if (own > target) {
                    temperature[i] = own - 1;
                }
                // The next layer goes by the temperature that this one had at the beginning of the step.
                above = own;
            }
        }

        private int temperatureBeneath(int layer) {
            return hasLayer(layer + 1) ? temperature[layer + 1] : MELTING;
        }

        void addStrains() {
            for (int i = 0; i < layerCount; i++) {
                strain[i] += Math.abs(temperature[i] - temperatureBeneath(i));
            }
        }

        int crackLayers(int number, int hour, Peals peals) {
            int found = 0;
            for (int i = 0; i < layerCount; i++) {
                if (strain[i] >= CRACKING_STRAIN) {
                    int pitch = temperature[i] == MELTING ? 0 : pitchOf(i);
                    peals.record(CRACK, number, pitch, hour);
                    strain[i] = 0;
                    pushNeighbour(i - 1);
                    pushNeighbour(i + 1);
                    found++;
                }
            }
            cracks += found;
            return found;
        }

        private void pushNeighbour(int layer) {
            if (hasLayer(layer)) {
                strain[layer] += NEIGHBOUR_STRAIN;
            }
        }

        int pitchOf(int layer) {
            return PITCH_DIVIDEND / Math.max(1, thickness[layer]) - temperature[layer];
        }

        int thawTop(int air) {
            if (layerCount == 0 || air <= MELTING || temperature[0] != MELTING) {
                return 0;
            }
            thickness[0]--;
            if (thickness[0] <= 0) {
                dropTop();
            }
            return 1;
        }

        private void dropTop() {
            layerCount--;
            for (int i = 0; i < layerCount; i++) {
                thickness[i] = thickness[i + 1];
                temperature[i] = temperature[i + 1];
                strain[i] = strain[i + 1];
            }
        }

        void writeTo(StringBuilder line) {
            for (int i = 0; i < layerCount; i++) {
                if (i > 0) {
                    line.append(' ');
                }
                line.append(thickness[i]);
                line.append('/');
                line.append(temperature[i]);
                if (strain[i] >= SHOWN_STRAIN) {
                    line.append('!');
                }
            }
        }
    }

    /** The thaw windows in the ascending order of their first hours. */
    private static final class Windows {
        final int[] first = new int[WINDOWS];
        final int[] last = new int[WINDOWS];
        int count = 0;

        void copyFrom(Windows other) {
            System.arraycopy(other.first, 0, first, 0, WINDOWS);
            System.arraycopy(other.last, 0, last, 0, WINDOWS);
            count = other.count;
        }

        boolean hasPosition(int position) {
            return position >= 0 && position < count;
        }

        boolean contain(int hour) {
            return meet(hour, hour);
        }

        boolean meet(int from, int to) {
            for (int i = 0; i < count; i++) {
                if (from <= last[i] && to >= first[i]) {
                    return true;
                }
            }
            return false;
        }

        int insert(int newFirst, int newLast) {
            int position = count;
            while (position > 0 && first[position - 1] > newFirst) {
                first[position] = first[position - 1];
                last[position] = last[position - 1];
                position--;
            }
            first[position] = newFirst;
            last[position] = newLast;
            count++;
            return count;
        }

        int removeAt(int position) {
            count--;
            for (int i = position; i < count; i++) {
                first[i] = first[i + 1];
                last[i] = last[i + 1];
            }
            return count;
        }
    }

    /** The latest peals, in a ring: the latest one stands before the slot next. */
    private static final class Peals {
        final char[] kind = new char[PEALS];
        final int[] lake = new int[PEALS];
        final int[] pitch = new int[PEALS];
        final int[] hour = new int[PEALS];
        int count = 0;
        int next = 0;

        void copyFrom(Peals other) {
            System.arraycopy(other.kind, 0, kind, 0, PEALS);
            System.arraycopy(other.lake, 0, lake, 0, PEALS);
            System.arraycopy(other.pitch, 0, pitch, 0, PEALS);
            System.arraycopy(other.hour, 0, hour, 0, PEALS);
            count = other.count;
            next = other.next;
        }

        void record(char newKind, int newLake, int newPitch, int newHour) {
            kind[next] = newKind;
            lake[next] = newLake;
            pitch[next] = newPitch;
            hour[next] = newHour;
            next = (next + 1) % PEALS;
            count = Math.min(count + 1, PEALS);
        }

        int slotOf(int recency) {
            return Math.floorMod(next - 1 - recency, PEALS);
        }

        // The recorded peals fill the slots below count, in whatever order: a ring that has turned is full.
        int pairsByComparing() {
            int pairs = 0;
            for (int i = 0; i < count; i++) {
                for (int j = i + 1; j < count; j++) {
                    if (pitch[i] == pitch[j]) {
                        pairs++;
                    }
                }
            }
            return pairs;
        }

        int pairsByCounting(int[] tally) {
            countPitches(tally);
            int pairs = 0;
            for (int i = 0; i < tally.length; i++) {
                pairs += tally[i] * (tally[i] - 1) / 2;
            }
            return pairs;
        }

        int differentPitches(int[] tally) {
            countPitches(tally);
            int different = 0;
            for (int i = 0; i < tally.length; i++) {
                if (tally[i] > 0) {
                    different++;
                }
            }
            return different;
        }

        private void countPitches(int[] tally) {
            for (int i = 0; i < tally.length; i++) {
                tally[i] = 0;
            }
            for (int i = 0; i < count; i++) {
                if (pitch[i] >= 0 && pitch[i] < tally.length) {
                    tally[pitch[i]]++;
                }
            }
        }
    }

    /** The landscapes before the latest changes, in a ring: the latest one stands before the slot next. */
    private static final class History {
        final Landscape[] past = new Landscape[UNDOABLE];
        int count = 0;
        int next = 0;

        History() {
            for (int i = 0; i < UNDOABLE; i++) {
                past[i] = new Landscape();
            }
        }

        void remember(Landscape landscape) {
            past[next].copyFrom(landscape);
            next = (next + 1) % UNDOABLE;
            count = Math.min(count + 1, UNDOABLE);
        }

        int takeBack(Landscape landscape) {
            next = Math.floorMod(next - 1, UNDOABLE);
            landscape.copyFrom(past[next]);
            count--;
            return count;
        }

        void forget() {
            count = 0;
        }
    }

    /** The commands; the constructor's text is the form, in which each capital stands for a parameter. */
    private enum Kind {
        LAKE("lake N"),
        FREEZE("freeze D N T"),
        AIR("air T"),
        PASS("pass N"),
        WINDOW("window N-N"),
        OPEN("open D"),
        STRIKE("strike DD");

        final String form;

        Kind(String form) {
            this.form = form;
        }
    }

    private static final class Command {
        Kind kind = Kind.LAKE;
        final int[] numbers = new int[PARAMETERS];
        int numberCount = 0;

        void begin(Kind newKind) {
            kind = newKind;
            numberCount = 0;
        }

        void addNumber(int number) {
            if (numberCount < PARAMETERS) {
                numbers[numberCount] = number;
                numberCount++;
            }
        }
    }

    /** The command text and, after parse(), its commands and how far it could be read. */
    private static final class CommandText {
        final char[] text = new char[TEXT_LENGTH];
        int length = 0;
        int position = 0;
        final Command[] commands = new Command[COMMANDS];
        int commandCount = 0;

        CommandText() {
            for (int i = 0; i < COMMANDS; i++) {
                commands[i] = new Command();
            }
        }

        boolean isFull() {
            return length >= TEXT_LENGTH;
        }

        int add(char character) {
            text[length] = character;
            length++;
            return length;
        }

        void clear() {
            length = 0;
        }

        boolean parse() {
            position = 0;
            commandCount = 0;
            for (int i = 0; i < COMMANDS; i++) {
                if (!readCommand(commands[i])) {
                    return false;
                }
                commandCount++;
                if (position >= length) {
                    return true;
                }
                if (!readSign(';')) {
                    return false;
                }
            }
            return false;
        }

        private boolean readCommand(Command command) {
            // One letter tells the command, as no two forms begin with the same one.
            for (int k = 0; k < KINDS.length; k++) {
                String form = KINDS[k].form;
                if (!form.isEmpty() && stands(form.charAt(0))) {
                    command.begin(KINDS[k]);
                    return readForm(form, command);
                }
            }
            return false;
        }

        private boolean readForm(String form, Command command) {
            for (int i = 0; i < form.length(); i++) {
                if (!readPart(form.charAt(i), command)) {
                    return false;
                }
            }
            return true;
        }

        private boolean readPart(char part, Command command) {
            if (part == DIGIT) {
                return readNumber(1, 1, command);
            }
            if (part == NUMBER) {
                return readNumber(NUMBER_DIGITS, 1, command);
            }
            if (part == DEGREES) {
                return readNumber(NUMBER_DIGITS, readSign('-') ? -1 : 1, command);
            }
            return readSign(part);
        }

        private boolean readNumber(int mostDigits, int factor, Command command) {
            int number = 0;
            int digits = 0;
            while (digits < mostDigits && digitStands()) {
                number = number * 10 + (text[position] - '0');
                position++;
                digits++;
            }
            command.addNumber(factor * number);
            return digits > 0;
        }

        private boolean digitStands() {
            return position < length && text[position] >= '0' && text[position] <= '9';
        }

        private boolean readSign(char sign) {
            if (!stands(sign)) {
                return false;
            }
            position++;
            return true;
        }

        private boolean stands(char sign) {
            return position < length && text[position] == sign;
        }
    }
}
