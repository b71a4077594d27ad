import java.math.BigInteger;
import java.util.ArrayDeque;
import java.util.ArrayList;
import java.util.Arrays;
import java.util.HashMap;
import java.util.List;
import java.util.Map;
import java.util.Random;

/** A HOUSE told again from the document, in another and slower way: nights tick by tick, all else by trying. */
final class SlowHouse {
    int apart, motor, leader, burns, trimTicks, mendTicks;
    int[] frames, first, whole;
    int[] trust;
    final List<int[]> marks = new ArrayList<>();
    final List<int[]> joins = new ArrayList<>();
    final List<int[]> weaks = new ArrayList<>();
    final List<int[]> men = new ArrayList<>();
    final List<int[]> signs = new ArrayList<>();
    final List<int[]> scratches = new ArrayList<>();
    int[] shows;
    int[] boys;
    int[] thread;
    boolean[] trimmed;
    boolean[] mended;

    // a night, place by place
    int[] lost, black, tail, starts, changes, begins, left, motorAt;
    boolean[] gone;
    int seed;
    int snapped;

    static SlowHouse any(Random random) {
        SlowHouse house = new SlowHouse();
        boolean small = random.nextInt(3) > 0;
        house.apart = 1 + random.nextInt(50);
        house.motor = random.nextInt(small ? 12 : 51);
        house.leader = random.nextInt(small ? 12 : 100);
        house.burns = 1 + random.nextInt(small ? 200 : 3000);
        house.trimTicks = random.nextInt(small ? 60 : 1000);
        house.mendTicks = random.nextInt(small ? 12 : 1000);
        int reels = 1 + random.nextInt(8);
        house.frames = new int[reels];
        house.first = new int[reels];
        house.whole = new int[reels];
        for (int r = 0; r < reels; r++) {
            house.frames[r] = 2 + random.nextInt(small ? 60 : 300);
            house.first[r] = random.nextInt(house.frames[r]);
            house.whole[r] = house.frames[r] + random.nextInt(40);
        }
        house.trust = new int[random.nextInt(5)];
        for (int t = 0; t < house.trust.length; t++) {
            house.trust[t] = 1 + random.nextInt(9);
        }
        house.addLines(random);
        house.shows = new int[2 + random.nextInt(7)];
        for (int p = 0; p < house.shows.length; p++) {
            house.shows[p] = random.nextInt(reels);
        }
        if (random.nextInt(4) > 0) {
            house.boys = new int[] {1 + random.nextInt(4), 1 + random.nextInt(small ? 90 : 400), random.nextInt(51)};
        }
        for (int i = random.nextInt(4); i > 0; i--) {
            house.signs.add(new int[] {1 + random.nextInt(house.shows.length - 1), random.nextInt(3), random.nextInt(3)});
        }
        house.thread = new int[house.shows.length];
        Arrays.fill(house.thread, house.leader);
        house.trimmed = new boolean[house.shows.length];
        house.mended = new boolean[house.weaks.size()];
        return house;
    }

    private void addLines(Random random) {
        int reels = frames.length;
        for (int i = 0; i < 12 && trust.length > 0; i++) {
            int r = random.nextInt(reels);
            int town = random.nextInt(trust.length);
            if (random.nextInt(3) > 0 && markBy(r, town) < 0) {
                int near = first[r] - 3 + random.nextInt(7);
                int frame = random.nextBoolean() && near >= 0 && near < frames[r] ? near : random.nextInt(frames[r]);
                marks.add(new int[] {r, frame, town});
            }
        }
        for (int i = random.nextInt(9); i > 0; i--) {
            int r = random.nextInt(reels);
            joins.add(new int[] {r, random.nextInt(frames[r]), 1 + random.nextInt(random.nextBoolean() ? 10 : 99)});
        }
        for (int i = random.nextInt(7); i > 0; i--) {
            int r = random.nextInt(reels);
            int frame = random.nextInt(frames[r]);
            boolean unlike = true;
            for (int[] weak : weaks) {
                unlike &= weak[0] != r || weak[1] != frame;
            }
            if (unlike) {
                weaks.add(new int[] {r, frame, 1 + random.nextInt(99)});
            }
        }
        for (int i = 1 + random.nextInt(4); i > 0; i--) {
            int kind = random.nextInt(trust.length > 0 ? 4 : 3);
            men.add(new int[] {kind, kind == 3 ? random.nextInt(trust.length) : -1, random.nextInt(41)});
        }
        for (int i = random.nextInt(7); i > 0; i--) {
            int r = random.nextInt(reels);
            scratches.add(new int[] {r, random.nextInt(frames[r])});
        }
    }

    /** Names are short, or the tape would be full: reels a.., towns ta.., men ma... */
    String text() {
        StringBuilder text = new StringBuilder("house apart " + apart + " motor " + motor + " leader " + leader
                + " burns " + burns + " trim " + trimTicks + " mend " + mendTicks);
        for (int r = 0; r < frames.length; r++) {
            text.append(";reel " + reel(r) + " frames " + frames[r] + " first " + first[r] + " whole " + whole[r]);
        }
        for (int t = 0; t < trust.length; t++) {
            text.append(";town t" + reel(t) + " trust " + trust[t]);
        }
        for (int[] mark : marks) {
            text.append(";mark " + reel(mark[0]) + " " + mark[1] + " by t" + reel(mark[2]));
        }
        for (int[] join : joins) {
            text.append(";join " + reel(join[0]) + " " + join[1] + " lacks " + join[2]);
        }
        for (int[] weak : weaks) {
            text.append(";weak " + reel(weak[0]) + " " + weak[1] + " snaps " + weak[2]);
        }
        String[] kinds = {"clean", "early", "late", "misled t"};
        for (int m = 0; m < men.size(); m++) {
            int[] man = men.get(m);
            text.append(";man m" + reel(m) + " " + kinds[man[0]] + (man[0] == 3 ? reel(man[1]) : "") + " slip " + man[2]);
        }
        for (int p = 0; p < shows.length; p++) {
            text.append((p == 0 ? ";shows " : ",") + reel(shows[p]));
        }
        if (boys != null) {
            text.append(";boys " + boys[0] + " ride " + boys[1] + " falls " + boys[2]);
        }
        for (int[] sign : signs) {
            text.append(";seen " + sign[0] + " black " + sign[1] + " lost " + sign[2]);
        }
        for (int[] scratch : scratches) {
            text.append(";scratch " + reel(scratch[0]) + " " + scratch[1]);
        }
        return text.toString();
    }

    private static String reel(int r) {
        return Character.toString((char) ('a' + r));
    }

    SlowHouse copy() {
        SlowHouse other = new SlowHouse();
        other.apart = apart;
        other.motor = motor;
        other.leader = leader;
        other.burns = burns;
        other.trimTicks = trimTicks;
        other.mendTicks = mendTicks;
        other.frames = frames.clone();
        other.first = first.clone();
        other.whole = whole;
        other.trust = trust;
        for (int[] mark : marks) {
            other.marks.add(mark.clone());
        }
        for (int[] weak : weaks) {
            other.weaks.add(weak.clone());
        }
        other.joins.addAll(joins);
        other.men.addAll(men);
        other.signs.addAll(signs);
        other.scratches.addAll(scratches);
        other.shows = shows;
        other.boys = boys;
        other.thread = thread.clone();
        other.trimmed = trimmed.clone();
        other.mended = mended.clone();
        return other;
    }

    int markBy(int r, int town) {
        for (int[] mark : marks) {
            if (mark[0] == r && mark[2] == town) {
                return mark[1];
            }
        }
        return -2;
    }

    int believes(int man, int place) {
        int r = shows[place];
        List<Integer> all = new ArrayList<>();
        all.add(first[r]);
        for (int[] mark : marks) {
            if (mark[0] == r) {
                all.add(mark[1]);
            }
        }
        switch (men.get(man)[0]) {
            case 0:
                return first[r];
            case 1:
                return all.stream().min(Integer::compare).get();
            case 2:
                return all.stream().max(Integer::compare).get();
            default:
                return markBy(r, men.get(man)[1]) >= 0 ? markBy(r, men.get(man)[1]) : first[r];
        }
    }

    private int draw() {
        seed = (int) ((75L * seed + 74) % 65537);
        return seed;
    }

    /** Tick by tick; slip -1: it is drawn. */
    void night(int man, int slip) {
        int n = shows.length;
        lost = new int[n];
        black = new int[n];
        tail = new int[n];
        starts = new int[n];
        changes = new int[n];
        begins = new int[n];
        left = new int[n];
        motorAt = new int[n];
        gone = new boolean[n];
        snapped = 0;
        int tick = 0;
        int frame = 0;
        for (int p = 0; p < n; p++) {
            int end = frames[shows[p]];
            if (frame >= end) {
                gone[p] = true;
                lost[p] = end;
                starts[p] = -2;
                begins[p] = tick;
                left[p] = tick;
                if (p + 1 < n) {
                    motorAt[p + 1] = tick;
                }
                frame = 0;
                continue;
            }
            if (frame > 0) {
                lost[p] = frame;
            }
            while (frame < 0) {
                black[p]++;
                tick++;
                frame++;
            }
            begins[p] = tick;
            int startAt = -2;
            if (p + 1 < n) {
                startAt = believes(man, p) + (slip >= 0 ? slip : draw() % (men.get(man)[2] + 1));
                while (startAt >= end) {
                    startAt--;
                }
                while (startAt < frame) {
                    startAt++;
                }
            }
            starts[p] = startAt;
            boolean running = false;
            int next = p + 1 < n ? -motor - thread[p + 1] : 0;
            while (frame < end && !(running && frame == startAt + apart)) {
                if (frame == startAt) {
                    running = true;
                    motorAt[p + 1] = tick;
                }
                frame++;
                tick++;
                if (running) {
                    next++;
                }
            }
            changes[p] = frame;
            tail[p] = end - frame;
            left[p] = tick;
            frame = next;
            for (int w = 0; w < weaks.size() && slip < 0; w++) {
                if (weaks.get(w)[0] == shows[p] && !mended[w] && draw() % 100 < weaks.get(w)[2]) {
                    snapped += mendTicks;
                }
            }
        }
    }

    void night(int man) {
        night(man, men.get(man)[2]);
    }

    static int sum(int[] all) {
        return Arrays.stream(all).sum();
    }

    int waste() {
        return sum(lost) + sum(black) + sum(tail);
    }

    int worst() {
        int worst = 1;
        for (int p = 2; p < shows.length; p++) {
            if (lost[p] + black[p] + tail[p - 1] > lost[worst] + black[worst] + tail[worst - 1]) {
                worst = p;
            }
        }
        return worst;
    }

    int exact(int place) {
        if (gone[place - 1]) {
            return -2;
        }
        int best = 0;
        for (int t = 0; t <= 199; t++) {
            int run = changes[place - 1] - starts[place - 1] - motor;
            if (Math.abs(run - t) < Math.abs(run - best)) {
                best = t;
            }
        }
        return best;
    }

    int signsSo() {
        int bits = 0;
        for (int i = 0; i < signs.size(); i++) {
            int[] sign = signs.get(i);
            bits |= black[sign[0]] == sign[1] && lost[sign[0]] == sign[2] ? 1 << i : 0;
        }
        return bits;
    }

    int free(int place) {
        return place < 2 ? -2 : motorAt[place] - left[place - 2];
    }

    /** What is left behind each place; the last number: the places at which an arc dies, as bits. */
    int[] burn(boolean[] trims) {
        int n = shows.length;
        int[] has = {burns, burns};
        int[] behind = new int[n + 1];
        for (int p = 0; p < n; p++) {
            if (trims[p] && (p < 2 || free(p) >= trimTicks)) {
                has[p % 2] = burns;
            }
            has[p % 2] -= left[p] - motorAt[p];
            if (has[p % 2] < 0) {
                behind[n] |= 1 << p;
                has[p % 2] = burns;
            }
            behind[p] = has[p % 2];
        }
        return behind;
    }

    int never() {
        int n = shows.length;
        for (int many = 0; many <= n; many++) {
            for (int set = 0; set < 1 << n; set++) {
                if (Integer.bitCount(set) == many) {
                    boolean[] trims = new boolean[n];
                    for (int p = 0; p < n; p++) {
                        trims[p] = (set >> p & 1) == 1;
                    }
                    if (burn(trims)[n] == 0) {
                        return set;
                    }
                }
            }
        }
        return -2;
    }

    /** The CHANCE of each frame that is FIRST or marked, not yet a fraction of all. */
    Map<Integer, Integer> chances(int r) {
        Map<Integer, Integer> chances = new java.util.TreeMap<>();
        chances.put(first[r], 1);
        for (int[] mark : marks) {
            if (mark[0] == r) {
                chances.put(mark[1], 1);
            }
        }
        for (int frame : new ArrayList<>(chances.keySet())) {
            int chance = 1;
            for (int t = 0; t < trust.length; t++) {
                int at = markBy(r, t);
                if (at >= 0) {
                    chance *= at >= frame - 2 && at <= frame + 2 ? trust[t] : 10 - trust[t];
                }
            }
            chances.put(frame, chance);
        }
        return chances;
    }

    int likeliest(int r) {
        int best = -1;
        Map<Integer, Integer> chances = chances(r);
        for (int frame : chances.keySet()) {
            if (best < 0 || chances.get(frame) > chances.get(best)) {
                best = frame;
            }
        }
        return best;
    }

    /** The town, and by how much its mark isn't as far. */
    int[] scratched(int scratch) {
        int[] it = scratches.get(scratch);
        int far = it[1] - first[it[0]];
        int[] best = {-2, -2};
        for (int off = 0; best[0] < 0 && off < 5000; off++) {
            for (int t = 0; t < trust.length && best[0] < 0; t++) {
                for (int[] mark : marks) {
                    int marked = mark[1] - first[mark[0]];
                    if (mark[2] == t && (marked == far + off || marked == far - off)) {
                        best = new int[] {t, off};
                    }
                }
            }
        }
        return best;
    }

    int untold(int r) {
        int lack = whole[r] - frames[r];
        for (int[] join : joins) {
            lack -= join[0] == r ? join[2] : 0;
        }
        return Math.max(lack, 0);
    }

    int count(List<int[]> rows, int r) {
        int many = 0;
        for (int[] row : rows) {
            many += row[0] == r ? 1 : 0;
        }
        return many;
    }

    static long part(BigInteger upper, BigInteger lower, boolean wantLower) {
        BigInteger by = upper.gcd(lower);
        return (wantLower ? lower : upper).divide(by).longValueExact();
    }

    static long part(long upper, long lower, boolean wantLower) {
        return part(BigInteger.valueOf(upper), BigInteger.valueOf(lower), wantLower);
    }

    static long power(int hundredths, int n, boolean wantLower) {
        return part(BigInteger.valueOf(hundredths).pow(n), BigInteger.valueOf(100).pow(n), wantLower);
    }

    /** When each reel is at the second house. */
    private int[] arrivals(int many) {
        int[] there = new int[shows.length];
        int[] back = new int[many];
        for (int p = 0; p < shows.length; p++) {
            Arrays.sort(back);
            there[p] = Math.max(left[p], back[0]) + boys[1];
            back[0] = there[p] + boys[1];
        }
        return there;
    }

    int waits(int many, int later) {
        int[] there = arrivals(many);
        int clock = later;
        int waited = 0;
        for (int p = 0; p < shows.length; p++) {
            while (clock < there[p]) {
                clock++;
                waited++;
            }
            clock += left[p] - begins[p];
        }
        return waited;
    }

    int apart(int many) {
        int low = 0;
        while (waits(many, low) > 0) {
            low++;
        }
        return low;
    }

    int wrong() {
        int bits = 0;
        for (int p = 0; p < shows.length; p++) {
            for (int q = 0; q < p; q++) {
                bits |= shows[q] > shows[p] || shows[q] == shows[p] ? 1 << p : 0;
            }
        }
        return bits;
    }

    /** All orders that one exchange makes, then all that two make, and so on. */
    int exchanges() {
        char[] right = order().toCharArray();
        Arrays.sort(right);
        Map<String, Integer> steps = new HashMap<>();
        ArrayDeque<String> open = new ArrayDeque<>();
        steps.put(order(), 0);
        open.add(order());
        while (!steps.containsKey(new String(right))) {
            String at = open.remove();
            for (int i = 0; i < at.length(); i++) {
                for (int j = 0; j < i; j++) {
                    char[] other = at.toCharArray();
                    other[i] = at.charAt(j);
                    other[j] = at.charAt(i);
                    String next = new String(other);
                    if (!steps.containsKey(next)) {
                        steps.put(next, steps.get(at) + 1);
                        open.add(next);
                    }
                }
            }
        }
        return steps.get(new String(right));
    }

    private String order() {
        StringBuilder order = new StringBuilder();
        for (int r : shows) {
            order.append((char) ('a' + r));
        }
        return order.toString();
    }

    void mend(int weak) {
        int[] it = weaks.get(weak);
        int r = it[0];
        int cut = it[1];
        frames[r] -= 2;
        first[r] = moved(first[r], cut, frames[r]);
        for (int[] mark : marks) {
            if (mark[0] == r) {
                mark[1] = moved(mark[1], cut, frames[r]);
            }
        }
        for (int[] other : weaks) {
            if (other[0] == r) {
                other[1] = moved(other[1], cut, frames[r]);
            }
        }
        mended[weak] = true;
        joins.add(new int[] {r, cut, 2});
    }

    private static int moved(int frame, int cut, int frames) {
        int at = frame;
        for (int i = 0; i < 2 && frame >= cut && at > 0; i++) {
            at--;
        }
        while (at >= frames) {
            at--;
        }
        return at;
    }
}
