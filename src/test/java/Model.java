import java.util.ArrayList;
import java.util.List;

/**
 * The document once more, in another way: what would be is found by making the whole race again from the calls
 * that changed it, so that it cannot disturb the race that is asked.
 */
final class Model {
    /** A boat's row: what boat() tells at 0 to 8 (6 is held as the time), then its strength. */
    private final List<int[]> boats = new ArrayList<>();
    private final List<String> patterns = new ArrayList<>();
    private final List<int[]> weirs = new ArrayList<>();
    private final int[] water = {1, 2, 3, 2, 1};
    private final List<int[]> calls = new ArrayList<>();
    private int tick = 0;

    private Model again() {
        Model model = new Model();
        for (int[] call : calls) {
            switch (call[0]) {
                case 0 -> model.setWater(call[1], call[2]);
                case 1 -> model.weir(call[1], call[2]);
                case 2 -> model.launch(call[1], call[2]);
                case 3 -> model.paddle(call[1], call[2], call[3]);
                case 4 -> model.tar(call[1]);
                default -> model.go(call[1]);
            }
        }
        return model;
    }

    private static boolean within(int x, int least, int most) {
        return least <= x && x <= most;
    }

    private void needBoat(int boat) {
        if (!within(boat, 0, boats.size() - 1)) {
            throw new IndexOutOfBoundsException();
        }
    }

    private static void need(boolean holds) {
        if (!holds) {
            throw new IllegalArgumentException();
        }
    }

    int setWater(int lane, int now) {
        if (!within(lane, 0, 4)) {
            throw new IndexOutOfBoundsException();
        }
        need(within(now, 0, 6));
        int before = water[lane];
        water[lane] = now;
        calls.add(new int[] {0, lane, now});
        return before;
    }

    int weir(int place, int gap) {
        need(within(place, 1, 199) && within(gap, 0, 4));
        if (weirs.size() == 6 || weirs.stream().anyMatch(w -> w[0] == place)) {
            throw new IllegalStateException();
        }
        weirs.add(new int[] {place, gap});
        calls.add(new int[] {1, place, gap});
        return weirs.size();
    }

    int launch(int lane, int strength) {
        need(within(lane, 0, 4) && within(strength, 1, 8));
        if (boats.size() == 6) {
            throw new IllegalStateException();
        }
        boats.add(new int[] {0, lane, 0, 0, 0, 0, -1, 0, 0, strength});
        patterns.add("3");
        calls.add(new int[] {2, lane, strength});
        return boats.size() - 1;
    }

    int paddle(int boat, int length, int strokes) {
        needBoat(boat);
        need(within(length, 1, 6) && strokes >= 0);
        StringBuilder digits = new StringBuilder().append(strokes);
        while (digits.length() < length) {
            digits.insert(0, '0');
        }
        need(digits.length() == length && digits.toString().matches("[0-3]*"));
        calls.add(new int[] {3, boat, length, strokes});
        return patterns.set(boat, digits.toString()).length();
    }

    int tar(int boat) {
        needBoat(boat);
        int[] b = boats.get(boat);
        if (b[5] == 1) {
            throw new IllegalStateException();
        }
        int before = b[3];
        b[3] = 0;
        b[4] += 4;
        calls.add(new int[] {4, boat});
        return before;
    }

    int boat(int boat, int what) {
        needBoat(boat);
        if (!within(what, 0, 8)) {
            throw new IndexOutOfBoundsException();
        }
        return boats.get(boat)[what];
    }

    int count(int what) {
        if (!within(what, 0, 6)) {
            throw new IndexOutOfBoundsException();
        }
        int[] counts = {tick, boats.size(), weirs.size(), 0, 0, -1, -1};
        for (int i = 0; i < boats.size(); i++) {
            int[] b = boats.get(i);
            counts[3] += b[5];
            counts[4] += b[4];
            if (b[5] == 0 && (counts[5] < 0 || b[0] > boats.get(counts[5])[0])) {
                counts[5] = i;
            }
            if (b[5] == 1 && (counts[6] < 0 || b[6] < boats.get(counts[6])[6])) {
                counts[6] = i;
            }
        }
        return counts[what];
    }

    int next(int place) {
        need(within(place, 0, 200));
        return weirs.stream().mapToInt(w -> w[0]).filter(p -> p > place).min().orElse(-1);
    }

    int rank(int boat) {
        needBoat(boat);
        int[] mine = boats.get(boat);
        int rank = 1;
        for (int[] other : boats) {
            boolean bothIn = mine[5] == 1 && other[5] == 1;
            boolean bothOut = mine[5] == 0 && other[5] == 0;
            if (other[5] > mine[5] || bothIn && other[6] < mine[6] || bothOut && other[0] > mine[0]) {
                rank++;
            }
        }
        return rank;
    }

    int go(int ticks) {
        need(within(ticks, 1, 200));
        int in = count(3);
        for (int i = 0; i < ticks; i++) {
            for (int b = 0; b < boats.size(); b++) {
                if (boats.get(b)[5] == 0) {
                    row(boats.get(b), patterns.get(b));
                }
            }
            tick++;
        }
        calls.add(new int[] {5, ticks});
        return count(3) - in;
    }

    private void row(int[] b, String pattern) {
        char stroke = pattern.charAt(tick % pattern.length());
        b[2] += stroke == '1' ? 1 : stroke == '2' ? -1 : 0;
        int force = stroke == '3' ? b[9] : stroke == '0' ? 0 : b[9] / 2;
        force -= b[3] / 6;
        if (force < 0) {
            force = 0;
        }
        if (b[2] == 5 || b[2] == -5) {
            b[2] = 0;
            b[7]++;
            force = 0;
        }
        int side = b[2] >= 2 ? 1 : b[2] <= -2 ? -1 : 0;
        if (within(b[1] + side, 0, 4)) {
            b[1] += side;
        } else {
            b[4] += 3;
        }
        int sign = b[2] < 0 ? -b[2] : b[2];
        int steps = force * (4 - sign) / 4 + water[b[1]];
        // Step by step, so that the first weir that stops it is the first that it comes to.
        boolean stopped = false;
        for (int s = 0; s < steps && b[0] < 200 && !stopped; s++) {
            b[0]++;
            for (int[] w : weirs) {
                stopped = stopped || w[0] == b[0] && w[1] != b[1];
            }
        }
        if (stopped) {
            b[2] = 0;
            b[8]++;
            b[3] = b[3] > 25 ? 30 : b[3] + 5;
        }
        if (tick % 4 == 0 && b[3] < 30) {
            b[3]++;
        }
        if (b[0] == 200) {
            b[5] = 1;
            b[6] = tick + 1 + b[4];
        }
    }

    int arrives(int boat) {
        needBoat(boat);
        Model model = again();
        for (int behind = 0; behind <= 400; behind++) {
            if (model.boat(boat, 5) == 1) {
                return behind;
            }
            model.go(1);
        }
        return -1;
    }

    int foresee(int ticks, int what) {
        need(within(ticks, 1, 200));
        if (!within(what, 3, 6)) {
            throw new IndexOutOfBoundsException();
        }
        Model model = again();
        model.go(ticks);
        return model.count(what);
    }

    int advise(int boat, int ticks) {
        needBoat(boat);
        need(within(ticks, 1, 60));
        int best = 33;
        int farthest = -1;
        for (int pattern = 33; pattern >= 0; pattern--) {
            if (pattern % 10 <= 3) {
                Model model = again();
                model.paddle(boat, 2, pattern);
                model.go(ticks);
                if (model.boat(boat, 0) >= farthest) {
                    farthest = model.boat(boat, 0);
                    best = pattern;
                }
            }
        }
        return best;
    }

    double mean() {
        double sum = 0;
        for (int[] b : boats) {
            sum += b[0];
        }
        return boats.isEmpty() ? 0 : sum / boats.size();
    }

    long digest() {
        List<Integer> numbers = new ArrayList<>();
        for (int what = 0; what <= 6; what++) {
            numbers.add(count(what));
        }
        for (int w : water) {
            numbers.add(w);
        }
        for (int[] w : weirs) {
            numbers.add(w[0]);
            numbers.add(w[1]);
        }
        for (int b = 0; b < boats.size(); b++) {
            for (int what = 0; what <= 8; what++) {
                numbers.add(boat(b, what));
            }
            for (char stroke : patterns.get(b).toCharArray()) {
                numbers.add(stroke - '0');
            }
            numbers.add(rank(b));
        }
        long d = 1163;
        for (int x : numbers) {
            d = d * 31 + x;
        }
        return d;
    }
}
