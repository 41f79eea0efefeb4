/** Compares IceBells with the model on runs of calls, drawn by a fixed rule. */
public final class ModelTest {
    private static final Checks CHECKS = new Checks("ModelTest");
    private static final int RUNS = 3000;
    // What an object answers after so many calls is free.
    private static final int CALLS_OF_A_RUN = 512;
    private static final int[] EXTREMES = {
        Integer.MIN_VALUE, Integer.MIN_VALUE + 1, -1000000, -1, 0, 1, 9999, 10000, 1 << 30, Integer.MAX_VALUE - 1,
        Integer.MAX_VALUE,
    };

    private long drawn;
    private int calls = 0;
    private final int run;
    private final IceBells bells = new IceBells();
    private final Model model = new Model();

    private ModelTest(int run) {
        this.run = run;
        drawn = run * 7919L + 12345L;
    }

    public static void main(String[] args) {
        for (int run = 0; run < RUNS; run++) {
            ModelTest test = new ModelTest(run);
            while (test.calls < CALLS_OF_A_RUN) {
                test.someChange();
                for (int i = test.draw(12); i >= 0; i--) {
                    test.someQuestion();
                }
            }
        }
        CHECKS.finish();
    }

    /** A linear congruential sequence: the same for the same run, on every machine. */
    private int draw(int bound) {
        drawn = drawn * 6364136223846793005L + 1442695040888963407L;
        return (int) Math.floorMod(drawn >>> 33, (long) bound);
    }

    private int extreme() {
        return EXTREMES[draw(EXTREMES.length)];
    }

    private int between(int least, int most) {
        return draw(40) == 0 ? extreme() : least + draw(most - least + 1);
    }

    private static Object answer(Checks.Call call) {
        try {
            return call.answer();
        } catch (RuntimeException e) {
            return e.getClass().getName();
        }
    }

    private void same(String call, Checks.Call asked, Checks.Call due) {
        calls++;
        if (calls <= CALLS_OF_A_RUN) {
            CHECKS.due(0, "run " + run + ", call " + calls + ": " + call, answer(due), answer(asked));
        }
    }

    private void someChange() {
        switch (draw(20)) {
            case 0, 1 -> addLake(between(15, 405));
            case 2, 3, 4, 5, 6 -> freeze(between(0, 5), between(0, draw(2) == 0 ? 51 : 8), between(-41, 1));
            case 7, 8 -> setAir(between(-41, 21));
            case 9, 10, 11 -> pass(between(0, draw(4) == 0 ? 49 : 6));
            case 12 -> addWindow(between(0, 30));
            case 13 -> removeWindow(between(-1, 6));
            case 14, 15 -> strike(between(0, 4), between(0, 5));
            case 16 -> undo();
            case 17 -> saveOrRestore();
            default -> run();
        }
    }

    private void addLake(int depth) {
        same("addLake(" + depth + ")", () -> bells.addLake(depth), () -> model.addLake(depth));
    }

    private void freeze(int lake, int thickness, int temperature) {
        same("freeze(" + lake + ", " + thickness + ", " + temperature + ")",
                () -> bells.freeze(lake, thickness, temperature), () -> model.freeze(lake, thickness, temperature));
    }

    private void setAir(int temperature) {
        same("setAir(" + temperature + ")", () -> bells.setAir(temperature), () -> model.setAir(temperature));
    }

    private void pass(int hours) {
        same("pass(" + hours + ")", () -> bells.pass(hours), () -> model.pass(hours));
    }

    private void addWindow(int ahead) {
        int first = draw(40) == 0 ? extreme() : model.hour() + ahead;
        int last = draw(40) == 0 ? extreme() : first + draw(8) - 1;
        same("addWindow(" + first + ", " + last + ")", () -> bells.addWindow(first, last),
                () -> model.addWindow(first, last));
    }

    private void removeWindow(int position) {
        same("removeWindow(" + position + ")", () -> bells.removeWindow(position), () -> model.removeWindow(position));
    }

    private void strike(int lake, int layer) {
        same("strike(" + lake + ", " + layer + ")", () -> bells.strike(lake, layer), () -> model.strike(lake, layer));
    }

    private void undo() {
        for (int i = draw(4); i >= 0; i--) {
            same("undo()", bells::undo, model::undo);
        }
    }

    private void saveOrRestore() {
        if (draw(2) == 0) {
            same("save()", bells::save, model::save);
        } else {
            same("restore()", bells::restore, model::restore);
        }
    }

    private String command() {
        return switch (draw(9)) {
            case 0 -> "lake " + (18 + draw(400));
            case 1, 2, 3 -> "freeze " + draw(5) + " " + (1 + draw(12)) + " " + -draw(41);
            case 4 -> "air " + (draw(61) - 40);
            case 5 -> "pass " + (1 + draw(12));
            case 6 -> "window " + (model.hour() + draw(20)) % 1000 + "-" + (model.hour() + 5 + draw(20)) % 1000;
            case 7 -> "open " + draw(3);
            default -> "strike " + draw(4) + draw(4);
        };
    }

    private void run() {
        StringBuilder text = new StringBuilder(command());
        for (int i = draw(5); i > 0; i--) {
            text.append(draw(60) == 0 ? "" : ";").append(command());
        }
        if (draw(8) == 0) {
            text.setCharAt(draw(text.length()), (char) (31 + draw(97)));
        }
        for (int i = 0; i < text.length(); i++) {
            char c = text.charAt(i);
            same("append(" + (int) c + ")", () -> bells.append(c), () -> model.append(c));
        }
        same("run() of " + text, bells::run, model::run);
        same("errorPosition()", bells::errorPosition, model::errorPosition);
        same("failedCommand()", bells::failedCommand, model::failedCommand);
        same("failureKind()", bells::failureKind, model::failureKind);
    }

    private void someQuestion() {
        switch (draw(11)) {
            case 0, 1, 2, 3 -> ofALayer(between(0, 4), between(0, 7));
            case 4, 5 -> ofALake(between(0, 4));
            case 6 -> ofAPeal(between(-1, 16));
            case 7 -> ofAWindow(between(-1, 6));
            case 8 -> line(between(0, 4));
            default -> ofTheLandscape();
        }
    }

    private void ofTheLandscape() {
        switch (draw(14)) {
            case 0 -> same("lakeCount()", bells::lakeCount, model::lakeCount);
            case 1 -> same("air()", bells::air, model::air);
            case 2 -> same("hour()", bells::hour, model::hour);
            case 3, 4 -> same("hoursUntilCrack()", bells::hoursUntilCrack, model::hoursUntilCrack);
            case 5 -> same("windowCount()", bells::windowCount, model::windowCount);
            case 6 -> same("pealCount()", bells::pealCount, model::pealCount);
            case 7 -> same("echoPairs()", bells::echoPairs, model::echoPairs);
            case 8 -> same("echoPairsByPitch()", bells::echoPairsByPitch, model::echoPairs);
            case 9 -> same("pitchCount()", bells::pitchCount, model::pitchCount);
            case 10 -> same("frozenTotal()", bells::frozenTotal, model::frozenTotal);
            case 11 -> same("thawedTotal()", bells::thawedTotal, model::thawedTotal);
            case 12 -> same("crackTotal()", bells::crackTotal, model::crackTotal);
            default -> same("isConsistent()", bells::isConsistent, () -> true);
        }
    }

    private void ofALake(int lake) {
        String of = "(" + lake + ")";
        int depth = between(-1, 60);
        switch (draw(10)) {
            case 0 -> same("depth" + of, () -> bells.depth(lake), () -> model.depth(lake));
            case 1 -> same("layerCount" + of, () -> bells.layerCount(lake), () -> model.layerCount(lake));
            case 2 -> same("iceThickness" + of, () -> bells.iceThickness(lake), () -> model.iceThickness(lake));
            case 3 -> same("iceThicknessByHalves" + of, () -> bells.iceThicknessByHalves(lake),
                    () -> model.iceThickness(lake));
            case 4 -> same("hoursUntilThawed" + of, () -> bells.hoursUntilThawed(lake),
                    () -> model.hoursUntilThawed(lake));
            case 5 -> same("cracksOf" + of, () -> bells.cracksOf(lake), () -> model.cracksOf(lake));
            case 6 -> same("lakeAtRank" + of, () -> bells.lakeAtRank(lake), () -> model.lakeAtRank(lake));
            case 7 -> same("meanTemperature" + of, () -> bells.meanTemperature(lake), () -> model.meanTemperature(lake));
            case 8 -> same("iceShare" + of, () -> bells.iceShare(lake), () -> model.iceShare(lake));
            default -> same("layerAt(" + lake + ", " + depth + ")", () -> bells.layerAt(lake, depth),
                    () -> model.layerAt(lake, depth));
        }
    }

    private void line(int lake) {
        if (draw(3) == 0) {
            same("describeLake(" + lake + ")", () -> bells.describeLake(lake), () -> model.describeLake(lake));
        }
        for (int i = draw(5); i >= 0; i--) {
            int index = between(-1, 40);
            same("lineAt(" + index + ")", () -> bells.lineAt(index), () -> model.lineAt(index));
        }
    }

    private void ofALayer(int lake, int layer) {
        String of = "(" + lake + ", " + layer + ")";
        switch (draw(4)) {
            case 0 -> same("thickness" + of, () -> bells.thickness(lake, layer), () -> model.thickness(lake, layer));
            case 1 -> same("temperature" + of, () -> bells.temperature(lake, layer),
                    () -> model.temperature(lake, layer));
            case 2 -> same("strain" + of, () -> bells.strain(lake, layer), () -> model.strain(lake, layer));
            default -> same("pitch" + of, () -> bells.pitch(lake, layer), () -> model.pitch(lake, layer));
        }
    }

    private void ofAPeal(int recency) {
        String of = "(" + recency + ")";
        switch (draw(4)) {
            case 0 -> same("pealKind" + of, () -> bells.pealKind(recency), () -> model.pealKind(recency));
            case 1 -> same("pealLake" + of, () -> bells.pealLake(recency), () -> model.pealLake(recency));
            case 2 -> same("pealPitch" + of, () -> bells.pealPitch(recency), () -> model.pealPitch(recency));
            default -> same("pealHour" + of, () -> bells.pealHour(recency), () -> model.pealHour(recency));
        }
    }

    private void ofAWindow(int position) {
        String of = "(" + position + ")";
        int hour = draw(10) == 0 ? extreme() : model.hour() + draw(50) - 10;
        switch (draw(3)) {
            case 0 -> same("windowFirst" + of, () -> bells.windowFirst(position), () -> model.windowFirst(position));
            case 1 -> same("windowLast" + of, () -> bells.windowLast(position), () -> model.windowLast(position));
            default -> same("isInWindow(" + hour + ")", () -> bells.isInWindow(hour), () -> model.isInWindow(hour));
        }
    }
}
