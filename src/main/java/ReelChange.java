import java.util.NoSuchElementException;

/** From one reel to the next: a house, its print, its men and its nights. The promises stand in shared/DOC.md. */
public final class ReelChange {
    public static final int NONE = -1;

    /** What is asked for is there, but has no such number. */
    private static final int NOTHING_TO_TELL = -2;

    private static final int TAPE_ROOM = 900;
    private static final int FEED_BYTES = 20;
    private static final int MOST_THREAD = 199;
    private static final int MOST_SLIP = 40;
    private static final int MOST_BOYS = 4;
    private static final int MOST_LATER = 9999;
    private static final int MOST_SEED = 65536;
    private static final int MOST_DRAWN_NIGHTS = 20;
    private static final int MOST_HELD_NIGHTS = 4;
    private static final int MOST_WORN_NIGHTS = 99;
    private static final int FEWEST_TO_MEND = 6;
    private static final int TAKEN_BY_SNAP = 2;
    private static final int A_WORD_LOST = 24;

    // TROUBLE
    private static final int FINE = 0;
    private static final int NO_SUCH = 1;
    private static final int NUMBER = 2;
    private static final int NO_ROOM = 3;
    private static final int FAULTY = 4;
    private static final int NOT_SO = 5;
    private static final int THERE_IS_NONE = 6;

    // the numbers of the house's own line, as size() counts them
    private static final int APART = 0;
    private static final int MOTOR = 1;
    private static final int LEADER = 2;
    private static final int BURNS = 3;
    private static final int TRIM = 4;
    private static final int MEND = 5;

    // columns of the tables: marks, joins, weak places, scratches and places all lie ON a reel
    private static final int FRAMES = 0;
    private static final int FIRST = 1;
    private static final int WHOLE = 2;
    private static final int ON = 0;
    private static final int AT = 1;
    private static final int BY = 2;
    private static final int SNAPS = 2;
    private static final int LACKS = 1;
    private static final int THREAD = 1;
    private static final int TRUST = 0;
    private static final int KIND = 0;
    private static final int MISLED_BY = 1;
    private static final int SLIP = 2;
    private static final int BOYS = 0;
    private static final int RIDE = 1;
    private static final int FALLS = 2;
    private static final int SIGN_PLACE = 0;
    private static final int SIGN_BLACK = 1;
    private static final int SIGN_LOST = 2;

    // kinds of men
    private static final int CLEAN = 0;
    private static final int EARLY = 1;
    private static final int LATE = 2;
    private static final int MISLED = 3;

    private final Text text = new Text();
    private final House told = new House();
    private final State now = new State();
    private final Kept kept = new Kept();
    private final Night night = new Night();
    private final Arcs arcs = new Arcs();
    private final Riders riders = new Riders();
    private final Exchanger exchanger = new Exchanger();
    private final Fraction fraction = new Fraction();
    private int latestTrouble = FINE;

    public ReelChange() {
    }

    // ---- the house

    public int feed(int a, int b, int c, int d, int e) {
        if (text.taped + FEED_BYTES > TAPE_ROOM) {
            return NONE;
        }
        text.write(a);
        text.write(b);
        text.write(c);
        text.write(d);
        text.write(e);
        return text.taped;
    }

    public int house(int n) {
        if (n < 0 || n > text.taped) {
            return refuse(NUMBER);
        }
        text.read(n);
        if (text.faultNumber != 0) {
            return refuse(FAULTY);
        }
        told.copyFrom(text.house);
        now.copyFrom(told.atFirst);
        kept.forget();
        return tell(now.places.count);
    }

    public int fault() {
        return text.faultNumber;
    }

    public int where() {
        return latestTrouble == FAULTY ? text.faultPlace : NONE;
    }

    // ---- as it is

    public int reel(int r, int what) {
        if (!now.reels.has(r) || what < 0 || what > 5) {
            return refuse(NO_SUCH);
        }
        switch (what) {
            case 3:
                return tell(now.marks.howMany(ON, r));
            case 4:
                return tell(told.joins.howMany(ON, r) + now.mendedOn(r));
            case 5:
                return tell(now.weaks.howMany(ON, r) - now.mendedOn(r));
            default:
                return tell(now.reels.at(r, what));
        }
    }

    public int mark(int r, int town) {
        if (!now.reels.has(r) || !told.towns.has(town)) {
            return refuse(NO_SUCH);
        }
        return tell(now.markBy(r, town));
    }

    public int shows(int place) {
        return ofPlace(place, ON);
    }

    public int thread(int place) {
        return ofPlace(place, THREAD);
    }

    // ---- a night by a man

    public int believes(int man, int place) {
        return ofNight(man, place, Night.BELIEVES);
    }

    public int starts(int man, int place) {
        return ofNight(man, place, Night.STARTS);
    }

    public int changes(int man, int place) {
        return ofNight(man, place, Night.CHANGES);
    }

    public int lost(int man, int place) {
        return ofNight(man, place, Night.LOST);
    }

    public int black(int man, int place) {
        return ofNight(man, place, Night.BLACK);
    }

    public int tail(int man, int place) {
        return ofNight(man, place, Night.TAIL);
    }

    public int begins(int man, int place) {
        return ofNight(man, place, Night.BEGINS);
    }

    public int length(int man) {
        return runNight(man) ? tell(night.endTick()) : refuse(NO_SUCH);
    }

    public int all(int man, int what) {
        if (what < 0 || what > 3 || !runNight(man)) {
            return refuse(NO_SUCH);
        }
        switch (what) {
            case 0:
                return tell(night.sum(Night.LOST));
            case 1:
                return tell(night.sum(Night.BLACK));
            case 2:
                return tell(night.sum(Night.TAIL));
            default:
                return tell(night.sum(Night.GONE));
        }
    }

    public int worst(int man) {
        return runNight(man) ? tell(night.worstChange()) : refuse(NO_SUCH);
    }

    public int exact(int man, int place) {
        if (place == 0 || !now.places.has(place) || !runNight(man)) {
            return refuse(NO_SUCH);
        }
        return tell(night.exactThread(told, place));
    }

    public int signs(int man) {
        return runNight(man) ? tell(night.signsSo(told)) : refuse(NO_SUCH);
    }

    public int fits() {
        if (!isOpen()) {
            return refuse(NO_SUCH);
        }
        int everySign = (1 << told.signs.count) - 1;
        int men = 0;
        for (int man = 0; man < told.men.count; man++) {
            if (runNight(man) && night.signsSo(told) == everySign) {
                men |= 1 << man;
            }
        }
        return tell(men);
    }

    public int bestSlip(int man) {
        return told.men.has(man) ? tell(leastSlip(man)) : refuse(NO_SUCH);
    }

    public int bySlip(int man) {
        if (!told.men.has(man)) {
            return refuse(NO_SUCH);
        }
        night.slipBy(leastSlip(man));
        night.run(told, now);
        return tell(night.waste());
    }

    // ---- arcs

    public int needs(int man, int place) {
        if (!now.places.has(place) || !runNight(man)) {
            return refuse(NO_SUCH);
        }
        return tell(night.needed(place));
    }

    public int dies(int man, int place) {
        if (!now.places.has(place) || !runNight(man)) {
            return refuse(NO_SUCH);
        }
        arcs.burn(told, night, now.trims);
        return tell(arcs.dying >> place & 1);
    }

    public int firstDies(int man) {
        if (!runNight(man)) {
            return refuse(NO_SUCH);
        }
        arcs.burn(told, night, now.trims);
        return tell(arcs.firstDying());
    }

    public int free(int man, int place) {
        if (!now.places.has(place) || !runNight(man)) {
            return refuse(NO_SUCH);
        }
        return tell(night.idle(place));
    }

    public int arc(int man, int place) {
        if (!now.places.has(place) || !runNight(man)) {
            return refuse(NO_SUCH);
        }
        arcs.burn(told, night, now.trims);
        return tell(arcs.left.at(place, 0));
    }

    public int never(int man) {
        return runNight(man) ? tell(arcs.fewestTrims(told, night)) : refuse(NO_SUCH);
    }

    // ---- marks, joins, weak places

    public long truly(int r, int frame, boolean lower) {
        if (!now.reels.has(r) || !now.isMeantPerhaps(r, frame)) {
            return refuse(NO_SUCH);
        }
        fraction.set(now.weight(told.towns, r, frame), now.allWeights(told.towns, r));
        return tellPart(lower);
    }

    public int likeliest(int r) {
        return now.reels.has(r) ? tell(now.likeliestFrame(told.towns, r)) : refuse(NO_SUCH);
    }

    public int who(int scratch) {
        if (!told.scratches.has(scratch)) {
            return refuse(NO_SUCH);
        }
        int mark = nearestMark(scratch);
        return tell(mark < 0 ? NOTHING_TO_TELL : now.marks.at(mark, BY));
    }

    public int far(int scratch) {
        if (!told.scratches.has(scratch)) {
            return refuse(NO_SUCH);
        }
        int mark = nearestMark(scratch);
        return tell(mark < 0 ? NOTHING_TO_TELL : farFrom(mark, scratch));
    }

    public int missing(int r, boolean untold) {
        if (!now.reels.has(r)) {
            return refuse(NO_SUCH);
        }
        int missed = now.reels.at(r, WHOLE) - now.reels.at(r, FRAMES);
        if (untold) {
            missed = Math.max(0, missed - lackedBy(r));
        }
        return tell(missed);
    }

    public int words(int r) {
        if (!now.reels.has(r)) {
            return refuse(NO_SUCH);
        }
        int many = 0;
        for (int join = 0; join < told.joins.count; join++) {
            if (told.joins.at(join, ON) == r && told.joins.at(join, LACKS) >= A_WORD_LOST) {
                many++;
            }
        }
        return tell(many);
    }

    public long holds(int weak, int n, boolean lower) {
        if (!now.isWeak(weak)) {
            return refuse(NO_SUCH);
        }
        if (n < 0 || n > MOST_HELD_NIGHTS) {
            return refuse(NUMBER);
        }
        fraction.setPower(100 - now.weaks.at(weak, SNAPS), 100, n);
        return tellPart(lower);
    }

    public int pays(int weak, int n) {
        if (!now.isWeak(weak)) {
            return refuse(NO_SUCH);
        }
        if (n < 0 || n > MOST_HELD_NIGHTS) {
            return refuse(NUMBER);
        }
        fraction.setPower(100 - now.weaks.at(weak, SNAPS), 100, n);
        long snapsOf = fraction.lower - fraction.upper;
        return tell(told.number(MEND) * snapsOf > TAKEN_BY_SNAP * fraction.lower ? 1 : 0);
    }

    public long wears(int r, int n, boolean lower) {
        if (!now.reels.has(r)) {
            return refuse(NO_SUCH);
        }
        if (n < 0 || n > MOST_WORN_NIGHTS) {
            return refuse(NUMBER);
        }
        int snaps = 0;
        for (int weak = 0; weak < now.weaks.count; weak++) {
            if (now.isWeak(weak) && now.weaks.at(weak, ON) == r) {
                snaps += now.weaks.at(weak, SNAPS);
            }
        }
        fraction.set(TAKEN_BY_SNAP * n * snaps, 100);
        return tellPart(lower);
    }

    // ---- two houses

    public int apart(int man, int boys) {
        int refused = rideTrouble(man, boys, 0);
        if (refused != FINE) {
            return refuse(refused);
        }
        return tell(apartBy(boysMeant(boys)));
    }

    public int waits(int man, int boys, int later) {
        int refused = rideTrouble(man, boys, later);
        if (refused != FINE) {
            return refuse(refused);
        }
        riders.carry(night, boysMeant(boys), told.boys.at(0, RIDE), later);
        return tell(riders.waited);
    }

    public int boys(int man) {
        int refused = rideTrouble(man, 0, 0);
        if (refused != FINE) {
            return refuse(refused);
        }
        int least = apartBy(MOST_BOYS);
        int boys = 1;
        while (boys < MOST_BOYS && apartBy(boys) > least) {
            boys++;
        }
        return tell(boys);
    }

    public long well(boolean lower) {
        if (!isOpen()) {
            return refuse(NO_SUCH);
        }
        if (told.boys.count == 0) {
            return refuse(THERE_IS_NONE);
        }
        fraction.setPower(100 - told.boys.at(0, FALLS), 100, now.places.count);
        return tellPart(lower);
    }

    // ---- orders

    public int wrong() {
        return isOpen() ? tell(exchanger.wrongPlaces(now)) : refuse(NO_SUCH);
    }

    public int exchanges() {
        return isOpen() ? tell(exchanger.fewest(now)) : refuse(NO_SUCH);
    }

    // ---- nights by draws

    public int dark(int man, int seed) {
        if (!told.men.has(man)) {
            return refuse(NO_SUCH);
        }
        if (seed < 0 || seed > MOST_SEED) {
            return refuse(NUMBER);
        }
        night.meet(told, now, man);
        night.drawBy(seed);
        night.run(told, now);
        return tell(night.sum(Night.BLACK) + night.snapped);
    }

    public int bestMan(int seed, int n) {
        if (!isOpen()) {
            return refuse(NO_SUCH);
        }
        if (seed < 0 || seed > MOST_SEED || n < 1 || n > MOST_DRAWN_NIGHTS) {
            return refuse(NUMBER);
        }
        int best = 0;
        int least = Integer.MAX_VALUE;
        for (int man = 0; man < told.men.count; man++) {
            int waste = wasteByDraws(man, seed, n);
            if (waste < least) {
                least = waste;
                best = man;
            }
        }
        return tell(best);
    }

    // ---- acts

    public boolean threads(int place, int frames) {
        if (!now.places.has(place)) {
            return refuseAct(NO_SUCH);
        }
        if (frames < 0 || frames > MOST_THREAD) {
            return refuseAct(NUMBER);
        }
        if (now.places.at(place, THREAD) == frames) {
            return refuseAct(NOT_SO);
        }
        kept.keep(now);
        now.places.put(place, THREAD, frames);
        return actDone();
    }

    public boolean trim(int place, boolean is) {
        if (!now.places.has(place)) {
            return refuseAct(NO_SUCH);
        }
        if ((now.trims >> place & 1) == (is ? 1 : 0)) {
            return refuseAct(NOT_SO);
        }
        kept.keep(now);
        now.trims ^= 1 << place;
        return actDone();
    }

    public int mend(int weak) {
        if (!now.weaks.has(weak)) {
            return refuse(NO_SUCH);
        }
        int r = now.weaks.at(weak, ON);
        if (!now.isWeak(weak) || now.reels.at(r, FRAMES) < FEWEST_TO_MEND) {
            return refuse(NOT_SO);
        }
        kept.keep(now);
        now.cutOut(weak);
        return tell(now.reels.at(r, FRAMES));
    }

    public boolean undo() {
        if (!kept.takeBack(now)) {
            return refuseAct(THERE_IS_NONE);
        }
        return actDone();
    }

    public int image() {
        if (!isOpen()) {
            return refuse(NO_SUCH);
        }
        int number = kept.takeImage(now);
        return number < 0 ? refuse(NO_ROOM) : tell(number);
    }

    public boolean back(int image) {
        if (!kept.goBack(image, now)) {
            return refuseAct(NO_SUCH);
        }
        return actDone();
    }

    // ---- what is told

    public int led(int i) throws NoSuchElementException {
        int passed = 0;
        for (int weak = 0; weak < now.weaks.count; weak++) {
            if (now.isWeak(weak)) {
                if (passed == i) {
                    return weak;
                }
                passed++;
            }
        }
        throw new NoSuchElementException();
    }

    public int size(int what) {
        if (what >= APART && what <= MEND) {
            return told.number(what);
        }
        switch (what) {
            case 6:
                return now.reels.count;
            case 7:
                return told.towns.count;
            case 8:
                return now.marks.count;
            case 9:
                return told.joins.count + Integer.bitCount(now.mended);
            case 10:
                return now.weaks.count;
            case 11:
                return told.men.count;
            case 12:
                return now.places.count;
            case 13:
                return told.signs.count;
            case 14:
                return told.scratches.count;
            case 15:
                return kept.acts;
            case 16:
                return kept.imaged;
            case 17:
                return text.taped;
            default:
                return NONE;
        }
    }

    public int trouble() {
        return latestTrouble;
    }

    // ---- what the calls share

    private int refuse(int number) {
        latestTrouble = number;
        return NONE;
    }

    private int tell(int answer) {
        latestTrouble = FINE;
        return answer;
    }

    private boolean refuseAct(int number) {
        latestTrouble = number;
        return false;
    }

    private boolean actDone() {
        latestTrouble = FINE;
        return true;
    }

    private long tellPart(boolean lower) {
        latestTrouble = FINE;
        fraction.reduce();
        return lower ? fraction.lower : fraction.upper;
    }

    /** A HOUSE always has places, so an object without any has no HOUSE. */
    private boolean isOpen() {
        return now.places.count > 0;
    }

    private int ofPlace(int place, int column) {
        return now.places.has(place) ? tell(now.places.at(place, column)) : refuse(NO_SUCH);
    }

    private boolean runNight(int man) {
        if (!told.men.has(man)) {
            return false;
        }
        night.meet(told, now, man);
        night.slipBy(told.men.at(man, SLIP));
        night.run(told, now);
        return true;
    }

    private int ofNight(int man, int place, int column) {
        if (!now.places.has(place) || !runNight(man)) {
            return refuse(NO_SUCH);
        }
        return tell(night.rows.at(place, column));
    }

    private int leastSlip(int man) {
        int best = 0;
        int least = Integer.MAX_VALUE;
        night.meet(told, now, man);
        for (int slip = 0; slip <= MOST_SLIP; slip++) {
            night.slipBy(slip);
            night.run(told, now);
            int waste = night.waste();
            if (waste < least) {
                least = waste;
                best = slip;
            }
        }
        return best;
    }

    private int wasteByDraws(int man, int seed, int n) {
        int waste = 0;
        night.meet(told, now, man);
        night.drawBy(seed);
        for (int i = 0; i < n; i++) {
            night.run(told, now);
            waste += night.waste() + night.snapped;
        }
        return waste;
    }

    /** The first mark of the first town that is nearest: towns go ahead of marks. */
    private int nearestMark(int scratch) {
        int nearest = NONE;
        for (int town = 0; town < told.towns.count; town++) {
            for (int mark = 0; mark < now.marks.count; mark++) {
                if (now.marks.at(mark, BY) == town
                        && (nearest < 0 || farFrom(mark, scratch) < farFrom(nearest, scratch))) {
                    nearest = mark;
                }
            }
        }
        return nearest;
    }

    private int farFrom(int mark, int scratch) {
        int marked = now.marks.at(mark, AT) - now.reels.at(now.marks.at(mark, ON), FIRST);
        int scratched = told.scratches.at(scratch, AT) - now.reels.at(told.scratches.at(scratch, ON), FIRST);
        return Math.abs(marked - scratched);
    }

    private int lackedBy(int r) {
        int lack = TAKEN_BY_SNAP * now.mendedOn(r);
        for (int join = 0; join < told.joins.count; join++) {
            if (told.joins.at(join, ON) == r) {
                lack += told.joins.at(join, LACKS);
            }
        }
        return lack;
    }

    /** Runs the man's NIGHT, too, if nothing is refused. */
    private int rideTrouble(int man, int boys, int later) {
        if (!runNight(man)) {
            return NO_SUCH;
        }
        if (told.boys.count == 0) {
            return THERE_IS_NONE;
        }
        return boys < 0 || boys > MOST_BOYS || later < 0 || later > MOST_LATER ? NUMBER : FINE;
    }

    private int boysMeant(int boys) {
        return boys == 0 ? told.boys.at(0, BOYS) : boys;
    }

    private int apartBy(int boys) {
        riders.carry(night, boys, told.boys.at(0, RIDE), 0);
        return riders.apartNeeded;
    }

    /** Rows of whole numbers, with room for so many; what lies outside the room reads as 0. */
    private static final class Table {
        final int room;
        final int width;
        final int[] cells;
        int count = 0;

        Table(int room, int width) {
            this.room = Math.max(0, room);
            this.width = Math.max(0, width);
            this.cells = new int[this.room * this.width];
        }

        boolean has(int row) {
            return row >= 0 && row < count;
        }

        boolean isFull() {
            return count >= room;
        }

        void clear() {
            count = 0;
        }

        int at(int row, int column) {
            if (row < 0 || row >= room || column < 0 || column >= width) {
                return 0;
            }
            return cells[row * width + column];
        }

        void put(int row, int column, int value) {
            if (row >= 0 && row < room && column >= 0 && column < width) {
                cells[row * width + column] = value;
            }
        }

        /** A row of up to three columns; those beyond the width are left out. */
        void add(int a, int b, int c) {
            if (isFull()) {
                return;
            }
            put(count, 0, a);
            put(count, 1, b);
            put(count, 2, c);
            count++;
        }

        int howMany(int column, int value) {
            int many = 0;
            for (int row = 0; row < count; row++) {
                if (at(row, column) == value) {
                    many++;
                }
            }
            return many;
        }

        void copyFrom(Table other) {
            if (other == null || other.cells.length != cells.length) {
                return;
            }
            System.arraycopy(other.cells, 0, cells, 0, cells.length);
            count = other.count;
        }
    }

    /** What a text tells and no act changes; what acts change stands in atFirst as it was told. */
    private static final class House {
        final State atFirst = new State();
        final Table numbers = new Table(1, 6);
        final Table towns = new Table(4, 1);
        final Table joins = new Table(8, 2);
        final Table men = new Table(4, 3);
        final Table boys = new Table(1, 3);
        final Table signs = new Table(6, 3);
        final Table scratches = new Table(6, 2);

        int number(int which) {
            return numbers.at(0, which);
        }

        void clear() {
            atFirst.clear();
            numbers.clear();
            towns.clear();
            joins.clear();
            men.clear();
            boys.clear();
            signs.clear();
            scratches.clear();
        }

        void copyFrom(House other) {
            if (other == null) {
                return;
            }
            atFirst.copyFrom(other.atFirst);
            numbers.copyFrom(other.numbers);
            towns.copyFrom(other.towns);
            joins.copyFrom(other.joins);
            men.copyFrom(other.men);
            boys.copyFrom(other.boys);
            signs.copyFrom(other.signs);
            scratches.copyFrom(other.scratches);
        }
    }

    /** What acts change: the print as it is NOW, THREADS, TRIMS. */
    private static final class State {
        final Table reels = new Table(8, 3);
        final Table marks = new Table(12, 3);
        final Table weaks = new Table(6, 3);
        final Table places = new Table(8, 2);
        int mended = 0;
        int trims = 0;

        void clear() {
            reels.clear();
            marks.clear();
            weaks.clear();
            places.clear();
            mended = 0;
            trims = 0;
        }

        void copyFrom(State other) {
            if (other == null) {
                return;
            }
            reels.copyFrom(other.reels);
            marks.copyFrom(other.marks);
            weaks.copyFrom(other.weaks);
            places.copyFrom(other.places);
            mended = other.mended;
            trims = other.trims;
        }

        int reelAt(int place) {
            return places.at(place, ON);
        }

        /** Whether there is such a weak place that isn't MENDED. */
        boolean isWeak(int weak) {
            return weaks.has(weak) && (mended >> weak & 1) == 0;
        }

        int mendedOn(int r) {
            int many = 0;
            for (int weak = 0; weak < weaks.count; weak++) {
                if (!isWeak(weak) && weaks.at(weak, ON) == r) {
                    many++;
                }
            }
            return many;
        }

        int markBy(int r, int town) {
            for (int mark = 0; mark < marks.count; mark++) {
                if (marks.at(mark, ON) == r && marks.at(mark, BY) == town) {
                    return marks.at(mark, AT);
                }
            }
            return NOTHING_TO_TELL;
        }

        /** A clean man takes no mark in place of FIRST. */
        int believedBy(Table men, int man, int r) {
            int kind = men.at(man, KIND);
            int best = reels.at(r, FIRST);
            for (int mark = 0; mark < marks.count; mark++) {
                if (marks.at(mark, ON) == r) {
                    int frame = marks.at(mark, AT);
                    if (kind == EARLY && frame < best || kind == LATE && frame > best
                            || kind == MISLED && marks.at(mark, BY) == men.at(man, MISLED_BY)) {
                        best = frame;
                    }
                }
            }
            return best;
        }

        /** Whether FIRST or a mark of the reel is at that frame. */
        boolean isMeantPerhaps(int r, int frame) {
            return reels.at(r, FIRST) == frame || isMarked(r, frame, marks.count);
        }

        /** Whether one of the first so many marks lies there. */
        private boolean isMarked(int r, int frame, int many) {
            for (int mark = 0; mark < many; mark++) {
                if (marks.at(mark, ON) == r && marks.at(mark, AT) == frame) {
                    return true;
                }
            }
            return false;
        }

        int weight(Table towns, int r, int frame) {
            int product = 1;
            for (int mark = 0; mark < marks.count; mark++) {
                if (marks.at(mark, ON) == r) {
                    int trust = towns.at(marks.at(mark, BY), TRUST);
                    product *= Math.abs(marks.at(mark, AT) - frame) <= 2 ? trust : 10 - trust;
                }
            }
            return product;
        }

        /** Of unlike frames alone: a frame at which several lie counts once. */
        int allWeights(Table towns, int r) {
            int sum = weight(towns, r, reels.at(r, FIRST));
            for (int mark = 0; mark < marks.count; mark++) {
                int frame = marks.at(mark, AT);
                if (marks.at(mark, ON) == r && frame != reels.at(r, FIRST) && !isMarked(r, frame, mark)) {
                    sum += weight(towns, r, frame);
                }
            }
            return sum;
        }

        int likeliestFrame(Table towns, int r) {
            int best = reels.at(r, FIRST);
            int most = weight(towns, r, best);
            for (int mark = 0; mark < marks.count; mark++) {
                if (marks.at(mark, ON) == r) {
                    int frame = marks.at(mark, AT);
                    int weight = weight(towns, r, frame);
                    if (weight > most || weight == most && frame < best) {
                        most = weight;
                        best = frame;
                    }
                }
            }
            return best;
        }

        /** MENDED: the join that it leaves is counted by the bit. */
        void cutOut(int weak) {
            int r = weaks.at(weak, ON);
            int cut = weaks.at(weak, AT);
            int last = reels.at(r, FRAMES) - TAKEN_BY_SNAP - 1;
            reels.put(r, FRAMES, last + 1);
            reels.put(r, FIRST, sooner(reels.at(r, FIRST), cut, last));
            pull(marks, r, cut, last);
            pull(weaks, r, cut, last);
            mended |= 1 << weak;
        }

        private static void pull(Table table, int r, int cut, int last) {
            for (int row = 0; row < table.count; row++) {
                if (table.at(row, ON) == r) {
                    table.put(row, AT, sooner(table.at(row, AT), cut, last));
                }
            }
        }

        private static int sooner(int frame, int cut, int last) {
            int moved = frame >= cut ? Math.max(0, frame - TAKEN_BY_SNAP) : frame;
            return Math.min(moved, last);
        }
    }

    /** What UNDO and IMAGES need: states as they were. */
    private static final class Kept {
        private static final int ACTS_KEPT = 12;
        private static final int IMAGES_KEPT = 3;

        final State[] ahead = new State[ACTS_KEPT];
        final State[] images = new State[IMAGES_KEPT];
        int acts = 0;
        int next = 0;
        int imaged = 0;

        Kept() {
            for (int i = 0; i < ACTS_KEPT; i++) {
                ahead[i] = new State();
            }
            for (int i = 0; i < IMAGES_KEPT; i++) {
                images[i] = new State();
            }
        }

        void forget() {
            acts = 0;
            imaged = 0;
        }

        /** Ahead of an act; the oldest of 12 makes room. */
        void keep(State now) {
            State slot = slot(ahead, next);
            if (slot == null) {
                return;
            }
            slot.copyFrom(now);
            next = (next + 1) % ACTS_KEPT;
            acts = Math.min(acts + 1, ACTS_KEPT);
        }

        boolean takeBack(State now) {
            if (acts == 0) {
                return false;
            }
            acts--;
            next = (next + ACTS_KEPT - 1) % ACTS_KEPT;
            now.copyFrom(slot(ahead, next));
            return true;
        }

        /** The image's number, or NONE if there is no room. */
        int takeImage(State now) {
            State slot = slot(images, imaged);
            if (slot == null) {
                return NONE;
            }
            slot.copyFrom(now);
            imaged++;
            return imaged - 1;
        }

        boolean goBack(int image, State now) {
            if (image < 0 || image >= imaged) {
                return false;
            }
            now.copyFrom(slot(images, image));
            acts = 0;
            return true;
        }

        private static State slot(State[] slots, int i) {
            return i >= 0 && i < slots.length ? slots[i] : null;
        }
    }

    /** A NIGHT by a man, with one slip or with one that is drawn at each change. */
    private static final class Night {
        static final int LOST = 0;
        static final int BLACK = 1;
        static final int TAIL = 2;
        static final int GONE = 3;
        static final int STARTS = 4;
        static final int CHANGES = 5;
        static final int BEGINS = 6;
        static final int LEFT = 7;
        static final int MOTOR_STARTED = 8;
        static final int BELIEVES = 9;

        final Table rows = new Table(8, 10);
        /** Ticks that are dark by weak places that snapped. */
        int snapped = 0;
        private int mostSlip = 0;
        private int slip = 0;
        private boolean isDrawn = false;
        private int seed = 0;
        /** When the reel ahead was left, when the motor of the next was started, AHEAD of the next. */
        private int tick = 0;
        private int motorTick = 0;
        private int ahead = 0;

        /** What he BELIEVES is the same in all his nights, so it is looked up once for many of them. */
        void meet(House house, State state, int man) {
            rows.count = state.places.count;
            mostSlip = Math.max(0, house.men.at(man, SLIP));
            for (int place = 0; place < rows.count; place++) {
                rows.put(place, BELIEVES, state.believedBy(house.men, man, state.reelAt(place)));
            }
        }

        void slipBy(int always) {
            isDrawn = false;
            slip = always;
        }

        /** The SEED goes on from one run to the next. */
        void drawBy(int first) {
            isDrawn = true;
            seed = first;
        }

        void run(House house, State state) {
            snapped = 0;
            tick = 0;
            motorTick = 0;
            ahead = 0;
            for (int place = 0; place < rows.count; place++) {
                rows.put(place, MOTOR_STARTED, motorTick);
                int frames = state.reels.at(state.reelAt(place), FRAMES);
                if (ahead >= frames) {
                    goBy(place, frames);
                } else {
                    showReel(house, state, place, frames);
                    snapWeakPlaces(house, state, state.reelAt(place));
                }
            }
        }

        private void goBy(int place, int frames) {
            rows.put(place, LOST, frames);
            rows.put(place, BLACK, 0);
            rows.put(place, TAIL, 0);
            rows.put(place, GONE, 1);
            rows.put(place, STARTS, NOTHING_TO_TELL);
            rows.put(place, CHANGES, 0);
            rows.put(place, BEGINS, tick);
            rows.put(place, LEFT, tick);
            motorTick = tick;
            ahead = 0;
        }

        private void showReel(House house, State state, int place, int frames) {
            int lost = Math.max(ahead, 0);
            int black = Math.max(-ahead, 0);
            int begin = tick + black;
            int start = NOTHING_TO_TELL;
            int change = frames;
            if (place < rows.count - 1) {
                int meant = rows.at(place, BELIEVES) + slipNow();
                start = Math.max(lost, Math.min(meant, frames - 1));
                change = Math.min(start + house.number(APART), frames);
                motorTick = begin + start - lost;
                ahead = change - start - house.number(MOTOR) - state.places.at(place + 1, THREAD);
            }
            tick = begin + change - lost;
            rows.put(place, LOST, lost);
            rows.put(place, BLACK, black);
            rows.put(place, TAIL, frames - change);
            rows.put(place, GONE, 0);
            rows.put(place, STARTS, start);
            rows.put(place, CHANGES, change);
            rows.put(place, BEGINS, begin);
            rows.put(place, LEFT, tick);
        }

        private int slipNow() {
            return isDrawn ? draw() % (mostSlip + 1) : slip;
        }

        private void snapWeakPlaces(House house, State state, int r) {
            for (int weak = 0; isDrawn && weak < state.weaks.count; weak++) {
                if (state.isWeak(weak) && state.weaks.at(weak, ON) == r
                        && draw() % 100 < state.weaks.at(weak, SNAPS)) {
                    snapped += house.number(MEND);
                }
            }
        }

        private int draw() {
            seed = (75 * seed + 74) % 65537;
            return seed;
        }

        int sum(int column) {
            int sum = 0;
            for (int place = 0; place < rows.count; place++) {
                sum += rows.at(place, column);
            }
            return sum;
        }

        int waste() {
            return sum(LOST) + sum(BLACK) + sum(TAIL);
        }

        int endTick() {
            return rows.at(rows.count - 1, LEFT);
        }

        int worstChange() {
            int worst = 0;
            int most = -1;
            for (int place = 1; place < rows.count; place++) {
                int bad = rows.at(place, LOST) + rows.at(place, BLACK) + rows.at(place - 1, TAIL);
                if (bad > most) {
                    most = bad;
                    worst = place;
                }
            }
            return worst;
        }

        int exactThread(House house, int place) {
            if (rows.at(place - 1, GONE) == 1) {
                return NOTHING_TO_TELL;
            }
            int run = rows.at(place - 1, CHANGES) - rows.at(place - 1, STARTS);
            return Math.max(0, Math.min(run - house.number(MOTOR), MOST_THREAD));
        }

        int signsSo(House house) {
            int so = 0;
            for (int sign = 0; sign < house.signs.count; sign++) {
                int place = house.signs.at(sign, SIGN_PLACE);
                if (rows.at(place, BLACK) == house.signs.at(sign, SIGN_BLACK)
                        && rows.at(place, LOST) == house.signs.at(sign, SIGN_LOST)) {
                    so |= 1 << sign;
                }
            }
            return so;
        }

        int needed(int place) {
            return rows.at(place, LEFT) - rows.at(place, MOTOR_STARTED);
        }

        /** How long the projector was free; the first reels of both have none ahead of them. */
        int idle(int place) {
            return place < 2 ? NOTHING_TO_TELL : rows.at(place, MOTOR_STARTED) - rows.at(place - 2, LEFT);
        }
    }

    /** The ARCS of both projectors through a NIGHT. */
    private static final class Arcs {
        final Table left = new Table(8, 1);
        int dying = 0;

        void burn(House house, Night night, int trims) {
            int whole = house.number(BURNS);
            int freeToTrim = house.number(TRIM);
            dying = 0;
            for (int place = 0; place < night.rows.count; place++) {
                int has = place < 2 ? whole : left.at(place - 2, 0);
                if ((trims >> place & 1) == 1 && place >= 2 && night.idle(place) >= freeToTrim) {
                    has = whole;
                }
                int need = night.needed(place);
                if (has < need) {
                    dying |= 1 << place;
                    left.put(place, 0, whole);
                } else {
                    left.put(place, 0, has - need);
                }
            }
        }

        int firstDying() {
            for (int place = 0; place < left.room; place++) {
                if ((dying >> place & 1) == 1) {
                    return place;
                }
            }
            return NOTHING_TO_TELL;
        }

        /** Sets go up by 4: the first reels of both projectors have new arcs, to trim those is never needed. */
        int fewestTrims(House house, Night night) {
            int best = NOTHING_TO_TELL;
            int fewest = Integer.MAX_VALUE;
            for (int set = 0; set < 1 << night.rows.count; set += 4) {
                if (Integer.bitCount(set) < fewest) {
                    burn(house, night, set);
                    if (dying == 0) {
                        best = set;
                        fewest = Integer.bitCount(set);
                    }
                }
            }
            return best;
        }
    }

    /** TWO HOUSES: boys carry the reels of a NIGHT to the second one. */
    private static final class Riders {
        final Table backAt = new Table(MOST_BOYS, 1);
        int apartNeeded = 0;
        int waited = 0;

        void carry(Night night, int boys, int ride, int later) {
            for (int boy = 0; boy < MOST_BOYS; boy++) {
                backAt.put(boy, 0, 0);
            }
            apartNeeded = 0;
            waited = 0;
            int shown = 0;
            for (int place = 0; place < night.rows.count; place++) {
                int boy = soonestBack(boys);
                int left = night.rows.at(place, Night.LEFT);
                int there = Math.max(left, backAt.at(boy, 0)) + ride;
                backAt.put(boy, 0, there + ride);
                apartNeeded = Math.max(apartNeeded, there - shown);
                waited += Math.max(0, there - (later + shown + waited));
                shown += left - night.rows.at(place, Night.BEGINS);
            }
        }

        private int soonestBack(int boys) {
            int soonest = 0;
            for (int boy = 1; boy < boys; boy++) {
                if (backAt.at(boy, 0) < backAt.at(soonest, 0)) {
                    soonest = boy;
                }
            }
            return soonest;
        }
    }

    /** Orders that are wrong, and how soon they are right. */
    private static final class Exchanger {
        private static final int MOST_PLACES = 8;

        final Table inOrder = new Table(MOST_PLACES, 1);
        /** By set of places: into how many parts, each right by itself, it can be cut. */
        final Table parts = new Table(1 << MOST_PLACES, 1);
        /** By place: the reel that is there, less the reel that belongs there. */
        final long[] surplus = new long[MOST_PLACES];

        /** A place is wrong behind a greater reel, and behind the same one, too. */
        int wrongPlaces(State now) {
            int wrong = 0;
            for (int place = 1; place < now.places.count; place++) {
                for (int before = 0; before < place; before++) {
                    if (now.reelAt(before) >= now.reelAt(place)) {
                        wrong |= 1 << place;
                    }
                }
            }
            return wrong;
        }

        /**
         * A set of places that holds just the reels that belong there can be put right by itself, by one exchange
         * fewer than it has places: the fewest exchanges come with the most such sets.
         */
        int fewest(State now) {
            int count = Math.min(now.places.count, MOST_PLACES);
            sort(now);
            weigh(now);
            for (int set = 1; set < 1 << count; set++) {
                int most = 0;
                long sum = 0;
                for (int place = 0; place < surplus.length; place++) {
                    if ((set >> place & 1) == 1) {
                        most = Math.max(most, parts.at(set ^ 1 << place, 0));
                        sum += surplus[place];
                    }
                }
                parts.put(set, 0, sum == 0 ? most + 1 : most);
            }
            return count - parts.at((1 << count) - 1, 0);
        }

        private void sort(State now) {
            inOrder.clear();
            for (int r = 0; r < now.reels.count; r++) {
                for (int many = now.places.howMany(ON, r); many > 0; many--) {
                    inOrder.add(r, 0, 0);
                }
            }
        }

        private void weigh(State now) {
            for (int place = 0; place < surplus.length; place++) {
                surplus[place] = unit(now.reelAt(place)) - unit(inOrder.at(place, 0));
            }
        }

        /** Five bits a reel: eight more or fewer of one never reach the next. */
        private static long unit(int r) {
            return 1L << 5 * r;
        }
    }

    /** A fraction of whole numbers that aren't below 0. */
    private static final class Fraction {
        long upper = 0;
        long lower = 1;

        void set(long up, long down) {
            upper = up;
            lower = down;
        }

        /** (up / down) to the n-th. */
        void setPower(int up, int down, int n) {
            upper = 1;
            lower = 1;
            for (int i = 0; i < n; i++) {
                upper *= up;
                lower *= down;
            }
        }

        void reduce() {
            long divisor = upper;
            long rest = lower;
            for (int i = 0; i < 200 && rest > 0; i++) {
                long next = divisor % rest;
                divisor = rest;
                rest = next;
            }
            if (divisor > 1) {
                upper /= divisor;
                lower /= divisor;
            }
        }
    }

    /** THE TAPE, and the reading of THE TEXT of a HOUSE on it, up to its first FAULT. */
    private static final class Text {
        private static final int FORM = 1;
        private static final int NOT_TOLD = 2;
        private static final int AGAIN = 3;
        private static final int BOUNDS = 4;
        private static final int MANY = 5;
        private static final int LACKING = 6;

        // what a byte or a TOKEN is
        private static final int END = 0;
        private static final int WORD = 1;
        private static final int DIGITS = 2;
        private static final int SEMICOLON = 3;
        private static final int COMMA = 4;
        private static final int BLANK = 5;
        private static final int NO_TOKEN = 6;

        private static final int MOST_LETTERS = 8;
        private static final int MOST_DIGITS = 4;

        // sorts of NAMES, and the columns of what is named
        private static final int REEL = 0;
        private static final int TOWN = 1;
        private static final int MAN = 2;
        private static final int SORT = 0;
        private static final int COUNTED = 1;

        int taped = 0;
        /** What the text tells; whole only if there is no FAULT. */
        final House house = new House();
        int faultNumber = 0;
        int faultPlace = 0;
        private final byte[] tape = new byte[TAPE_ROOM];
        private int end = 0;
        private final long[] names = new long[16];
        private final Table named = new Table(16, 2);
        /** The TOKEN that is to be taken next; the one behind it begins at position or later. */
        private int kind = END;
        private int start = 0;
        private int position = 0;
        private int value = 0;
        private long letters = 0;
        /** Of the WHOLE or NAME taken last: its value or number, and its place. */
        private int taken = 0;
        private int takenAt = 0;

        void write(int four) {
            for (int shift = 24; shift >= 0; shift -= 8) {
                if (taped >= 0 && taped < tape.length) {
                    tape[taped] = (byte) (four >> shift);
                    taped++;
                }
            }
        }

        /** THE TAPE is empty then. */
        void read(int n) {
            taped = 0;
            end = n;
            position = 0;
            house.clear();
            named.clear();
            faultNumber = 0;
            faultPlace = 0;
            next();
            boolean goesOn = true;
            for (int lines = 0; goesOn && lines <= end; lines++) {
                goesOn = isLine() && isFollowed();
            }
        }

        /** Behind a LINE: whether another must come. */
        private boolean isFollowed() {
            if (kind == SEMICOLON) {
                next();
                return true;
            }
            if (kind != END) {
                return refuseAt(FORM, start);
            }
            if (house.atFirst.places.count == 0 || house.men.count == 0) {
                return refuseAt(LACKING, start);
            }
            return false;
        }

        private boolean refuseAt(int number, int place) {
            faultNumber = number;
            faultPlace = place;
            return false;
        }

        // ---- lines

        private boolean isLine() {
            if (is("house")) {
                return isHouseLine();
            }
            if (is("by") || !isReserved()) {
                return refuseAt(FORM, start);
            }
            if (house.numbers.count == 0) {
                return refuseAt(LACKING, start);
            }
            if (is("reel")) {
                return isReelLine();
            }
            if (is("town")) {
                return isTownLine();
            }
            if (is("mark")) {
                return isMarkLine();
            }
            if (is("join")) {
                return isJoinLine();
            }
            if (is("weak")) {
                return isWeakLine();
            }
            if (is("man")) {
                return isManLine();
            }
            if (is("shows")) {
                return isShowsLine();
            }
            if (is("boys")) {
                return isBoysLine();
            }
            return is("seen") ? isSeenLine() : isScratchLine();
        }

        private boolean isHouseLine() {
            if (house.numbers.count > 0) {
                return refuseAt(AGAIN, start);
            }
            next();
            house.numbers.count = 1;
            return isNumber("apart", APART, 1, 50)
                    && isNumber("motor", MOTOR, 0, 50)
                    && isNumber("leader", LEADER, 0, 99)
                    && isNumber("burns", BURNS, 1, 9999)
                    && isNumber("trim", TRIM, 0, 999)
                    && isNumber("mend", MEND, 0, 999);
        }

        private boolean isNumber(String label, int which, int least, int most) {
            if (!isLabel(label) || !isWhole(least, most)) {
                return false;
            }
            house.numbers.put(0, which, taken);
            return true;
        }

        private boolean isReelLine() {
            Table reels = house.atFirst.reels;
            if (!hasRoom(reels) || !isNewName(REEL, reels.count)) {
                return false;
            }
            if (!isLabel("frames") || !isWhole(2, 2000)) {
                return false;
            }
            int frames = taken;
            if (!isLabel("first") || !isWhole(0, frames - 1)) {
                return false;
            }
            int first = taken;
            if (!isLabel("whole") || !isWhole(frames, 2000)) {
                return false;
            }
            reels.add(frames, first, taken);
            return true;
        }

        private boolean isTownLine() {
            if (!hasRoom(house.towns) || !isNewName(TOWN, house.towns.count)) {
                return false;
            }
            if (!isLabel("trust") || !isWhole(1, 9)) {
                return false;
            }
            house.towns.add(taken, 0, 0);
            return true;
        }

        private boolean isMarkLine() {
            State state = house.atFirst;
            if (!hasRoom(state.marks) || !isOldName(REEL)) {
                return false;
            }
            int r = taken;
            if (!isWhole(0, lastFrame(r))) {
                return false;
            }
            int frame = taken;
            if (!isLabel("by") || !isOldName(TOWN)) {
                return false;
            }
            if (state.markBy(r, taken) >= 0) {
                return refuseAt(AGAIN, takenAt);
            }
            state.marks.add(r, frame, taken);
            return true;
        }

        private boolean isJoinLine() {
            if (!hasRoom(house.joins) || !isOldName(REEL)) {
                return false;
            }
            int r = taken;
            if (!isWhole(0, lastFrame(r)) || !isLabel("lacks") || !isWhole(1, 99)) {
                return false;
            }
            house.joins.add(r, taken, 0);
            return true;
        }

        private boolean isWeakLine() {
            Table weaks = house.atFirst.weaks;
            if (!hasRoom(weaks) || !isOldName(REEL)) {
                return false;
            }
            int r = taken;
            if (!isWhole(0, lastFrame(r))) {
                return false;
            }
            int frame = taken;
            for (int weak = 0; weak < weaks.count; weak++) {
                if (weaks.at(weak, ON) == r && weaks.at(weak, AT) == frame) {
                    return refuseAt(AGAIN, takenAt);
                }
            }
            if (!isLabel("snaps") || !isWhole(1, 99)) {
                return false;
            }
            weaks.add(r, frame, taken);
            return true;
        }

        private boolean isManLine() {
            if (!hasRoom(house.men) || !isNewName(MAN, house.men.count)) {
                return false;
            }
            int manKind = kindOfMan();
            if (manKind < 0) {
                return refuseAt(FORM, start);
            }
            next();
            int town = NONE;
            if (manKind == MISLED) {
                if (!isOldName(TOWN)) {
                    return false;
                }
                town = taken;
            }
            if (!isLabel("slip") || !isWhole(0, MOST_SLIP)) {
                return false;
            }
            house.men.add(manKind, town, taken);
            return true;
        }

        private int kindOfMan() {
            if (is("clean")) {
                return CLEAN;
            }
            if (is("early")) {
                return EARLY;
            }
            if (is("late")) {
                return LATE;
            }
            return is("misled") ? MISLED : NONE;
        }

        private boolean isShowsLine() {
            Table places = house.atFirst.places;
            if (places.count > 0) {
                return refuseAt(AGAIN, start);
            }
            boolean goesOn = true;
            for (int i = 0; goesOn && i <= places.room; i++) {
                // past the line's own word at first, past a comma then
                next();
                if (!isOldName(REEL)) {
                    return false;
                }
                if (places.isFull()) {
                    return refuseAt(MANY, takenAt);
                }
                places.add(taken, house.number(LEADER), 0);
                goesOn = kind == COMMA;
            }
            if (places.count == 1 && (kind == SEMICOLON || kind == END)) {
                return refuseAt(LACKING, start);
            }
            return true;
        }

        private boolean isBoysLine() {
            if (house.boys.count > 0) {
                return refuseAt(AGAIN, start);
            }
            next();
            if (!isWhole(1, MOST_BOYS)) {
                return false;
            }
            int boys = taken;
            if (!isLabel("ride") || !isWhole(1, 2000)) {
                return false;
            }
            int ride = taken;
            if (!isLabel("falls") || !isWhole(0, 50)) {
                return false;
            }
            house.boys.add(boys, ride, taken);
            return true;
        }

        private boolean isSeenLine() {
            int places = house.atFirst.places.count;
            if (places == 0) {
                return refuseAt(LACKING, start);
            }
            if (!hasRoom(house.signs) || !isWhole(1, places - 1)) {
                return false;
            }
            int place = taken;
            if (!isLabel("black") || !isWhole(0, 9999)) {
                return false;
            }
            int black = taken;
            if (!isLabel("lost") || !isWhole(0, 9999)) {
                return false;
            }
            house.signs.add(place, black, taken);
            return true;
        }

        private boolean isScratchLine() {
            if (!hasRoom(house.scratches) || !isOldName(REEL)) {
                return false;
            }
            int r = taken;
            if (!isWhole(0, lastFrame(r))) {
                return false;
            }
            house.scratches.add(r, taken, 0);
            return true;
        }

        // ---- parts of lines

        /** At a LINE's first WORD, which is passed if there is room. */
        private boolean hasRoom(Table table) {
            if (table.isFull()) {
                return refuseAt(MANY, start);
            }
            next();
            return true;
        }

        private boolean isLabel(String label) {
            if (!is(label)) {
                return refuseAt(FORM, start);
            }
            next();
            return true;
        }

        private int lastFrame(int r) {
            return house.atFirst.reels.at(r, FRAMES) - 1;
        }

        private boolean isWhole(int least, int most) {
            if (kind != DIGITS) {
                return refuseAt(FORM, start);
            }
            if (value < least || value > most) {
                return refuseAt(BOUNDS, start);
            }
            taken = value;
            takenAt = start;
            next();
            return true;
        }

        private boolean isNewName(int sort, int number) {
            if (kind != WORD || isReserved()) {
                return refuseAt(FORM, start);
            }
            if (findName() >= 0) {
                return refuseAt(AGAIN, start);
            }
            int name = named.count;
            if (name >= 0 && name < names.length) {
                names[name] = letters;
                named.add(sort, number, 0);
            }
            next();
            return true;
        }

        private boolean isOldName(int sort) {
            if (kind != WORD || isReserved()) {
                return refuseAt(FORM, start);
            }
            int name = findName();
            if (name < 0 || named.at(name, SORT) != sort) {
                return refuseAt(NOT_TOLD, start);
            }
            taken = named.at(name, COUNTED);
            takenAt = start;
            next();
            return true;
        }

        private int findName() {
            for (int name = 0; name < named.count && name < names.length; name++) {
                if (names[name] == letters) {
                    return name;
                }
            }
            return NONE;
        }

        /** WORDS that are no NAMES. */
        private boolean isReserved() {
            return is("house") || is("reel") || is("town") || is("mark") || is("join") || is("weak")
                    || is("man") || is("shows") || is("boys") || is("by") || is("seen") || is("scratch");
        }

        // ---- tokens

        /** Whether the TOKEN is that WORD. */
        private boolean is(String word) {
            if (kind != WORD || start < 0 || word.length() != position - start) {
                return false;
            }
            for (int i = 0; i < word.length() && start + i < tape.length; i++) {
                if (tape[start + i] != word.charAt(i)) {
                    return false;
                }
            }
            return true;
        }

        private void next() {
            while (position < end && kindAt(position) == BLANK) {
                position++;
            }
            start = position;
            kind = kindAt(start);
            letters = 0;
            value = 0;
            if (kind == WORD || kind == DIGITS) {
                while (position >= 0 && position < end && position < tape.length && kindAt(position) == kind) {
                    letters = letters * 27 + (tape[position] - 'a' + 1);
                    value = value * 10 + (tape[position] - '0');
                    position++;
                }
            } else if (kind != END) {
                position++;
            }
            if (position - start > (kind == WORD ? MOST_LETTERS : MOST_DIGITS)) {
                kind = NO_TOKEN;
            }
        }

        private int kindAt(int place) {
            if (place < 0 || place >= end || place >= tape.length) {
                return END;
            }
            int sign = tape[place];
            if (sign >= 'a' && sign <= 'z') {
                return WORD;
            }
            if (sign >= '0' && sign <= '9') {
                return DIGITS;
            }
            switch (sign) {
                case ' ':
                    return BLANK;
                case ';':
                    return SEMICOLON;
                case ',':
                    return COMMA;
                default:
                    return NO_TOKEN;
            }
        }
    }
}
