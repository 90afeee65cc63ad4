/** A tent field that is halved whenever a new camper comes. README.md tells how it is used. */
public final class TentFields {
    public static final int UNKNOWN = -1;
    public static final int BAD_VALUE = -2;
    public static final int FULL = -3;
    public static final int NOT_POSSIBLE = -4;
    public static final int NONE = -5;

    private static final int SIDE = 64;
    private static final int DEEPEST = 12;
    private static final int MOST_CAMPERS = 16;
    private static final int MOST_SONGS = 20;
    private static final int MOST_TENTHS = 999;
    private static final int MOST_CHARACTERS = 60;
    private static final int MOST_STATES = 4;
    // The first camper halves nothing, every other one at most twelve times, and a halving makes one plot more.
    private static final int MOST_PLOTS = 1 + (MOST_CAMPERS - 1) * DEEPEST;

    private static final int NOBODY = -1;
    private static final int NO_PLOT = -1;
    private static final int NO_FAULT = -1;
    private static final int NO_NUMBER = -1;
    private static final int FAULT_BASE = -100;
    private static final int SONG_OF_NOBODY = 100;
    private static final int FLOAT_BIAS = 127;
    private static final int FLOAT_FRACTION_BITS = 23;

    private final Camp camp;
    private final Camp trial;
    private final Camp snapshot;
    private final History history;
    private final CampText text;
    private boolean hasSnapshot;

    public TentFields() {
        camp = new Camp();
        trial = new Camp();
        snapshot = new Camp();
        history = new History();
        text = new CampText();
        hasSnapshot = false;
    }

    // ---- campers

    public int come(int x, int y) {
        if (!isPoint(x, y)) {
            return UNKNOWN;
        }
        int depth = camp.depthForNewcomer(x, y);
        if (depth < 0) {
            return depth;
        }
        history.push(camp);
        return camp.settle(x, y, depth);
    }

    public int comeAll() {
        int fault = text.fault();
        if (fault != NO_FAULT) {
            return FAULT_BASE - fault;
        }
        trial.copyFrom(camp);
        int many = text.campers();
        for (int rank = 0; rank < many; rank++) {
            int x = text.number(2 * rank);
            int y = text.number(2 * rank + 1);
            int depth = trial.depthForNewcomer(x, y);
            if (depth < 0) {
                return depth;
            }
            trial.settle(x, y, depth);
        }
        history.push(camp);
        camp.copyFrom(trial);
        return many;
    }

    public int leave(int camper) {
        if (!camp.isHere(camper)) {
            return UNKNOWN;
        }
        history.push(camp);
        camp.sendAway(camper);
        return camp.campersHere();
    }

    public int moveTent(int camper, int x, int y) {
        if (!camp.isHere(camper) || !isPoint(x, y)) {
            return UNKNOWN;
        }
        int plot = camp.plots.find(x, y);
        if (camp.plots.ownerOf(plot) != camper) {
            return NOT_POSSIBLE;
        }
        if (camp.tentXs.at(camper) == x && camp.tentYs.at(camper) == y) {
            return NONE;
        }
        history.push(camp);
        camp.pitch(camper, x, y);
        return camp.plots.depthOf(plot);
    }

    public int handOver(int x, int y, int camper) {
        if (!isPoint(x, y) || !camp.isHere(camper)) {
            return UNKNOWN;
        }
        int plot = camp.plots.find(x, y);
        int owner = camp.plots.ownerOf(plot);
        if (camp.isTentIn(plot, owner) || !isMarked(camp.plots.ownersBeside(plot), camper)) {
            return NOT_POSSIBLE;
        }
        if (owner == camper) {
            return NONE;
        }
        history.push(camp);
        camp.passOn(plot, camper);
        return owner;
    }

    // ---- songs

    public int lay(int x, int y, int tenths) {
        if (!isPoint(x, y)) {
            return UNKNOWN;
        }
        if (tenths < 1 || tenths > MOST_TENTHS) {
            return BAD_VALUE;
        }
        if (camp.songsSoFar >= MOST_SONGS) {
            return FULL;
        }
        history.push(camp);
        return camp.addSong(x, y, tenths);
    }

    public int carry(int song, int x, int y) {
        if (!camp.isSong(song) || !isPoint(x, y)) {
            return UNKNOWN;
        }
        if (camp.songXs.at(song) == x && camp.songYs.at(song) == y) {
            return NONE;
        }
        history.push(camp);
        camp.putSong(song, x, y);
        return toldOwnerOf(song);
    }

    // ---- texts

    public int type(char character) {
        return text.append(character) ? text.length : FULL;
    }

    public int clearText() {
        int length = text.length;
        text.length = 0;
        return length;
    }

    // ---- history

    public int undo() {
        if (history.size == 0) {
            return NONE;
        }
        history.pop(camp);
        return history.size;
    }

    public int keep() {
        snapshot.copyFrom(camp);
        hasSnapshot = true;
        return camp.campersHere();
    }

    public int restore() {
        if (!hasSnapshot) {
            return NONE;
        }
        history.push(camp);
        camp.copyFrom(snapshot);
        return camp.campersHere();
    }

    // ---- what is told

    public int plot(int x, int y, int what) {
        if (!isPoint(x, y)) {
            return UNKNOWN;
        }
        Plots plots = camp.plots;
        int plot = plots.find(x, y);
        switch (what) {
            case 0:
                return orNone(plots.ownerOf(plot));
            case 1:
                return plots.depthOf(plot);
            case 2:
                return plots.x0Of(plot);
            case 3:
                return plots.y0Of(plot);
            case 4:
                return plots.x1Of(plot);
            case 5:
                return plots.y1Of(plot);
            case 6:
                return plots.manyBeside(plot);
            default:
                return BAD_VALUE;
        }
    }

    public int camper(int camper, int what) {
        if (!camp.isHere(camper)) {
            return UNKNOWN;
        }
        switch (what) {
            case 0:
                return camp.tentXs.at(camper);
            case 1:
                return camp.tentYs.at(camper);
            case 2:
                return camp.plots.manyOf(camper);
            case 3:
                return camp.plots.pointsOf(camper);
            case 4:
                return camp.songsOf(camper);
            case 5:
                return camp.plots.neighboursOf(camper);
            case 6:
                return bitsOf(camp.loudnessOf(camper));
            default:
                return BAD_VALUE;
        }
    }

    public int plotOf(int camper, int rank, int what) {
        if (!camp.isHere(camper)) {
            return UNKNOWN;
        }
        if (rank < 0 || what < 0 || what > 2) {
            return BAD_VALUE;
        }
        int plot = camp.plots.ranked(camper, rank);
        if (plot == NO_PLOT) {
            return NONE;
        }
        if (what == 0) {
            return camp.plots.x0Of(plot);
        }
        return what == 1 ? camp.plots.y0Of(plot) : camp.plots.depthOf(plot);
    }

    public int song(int song, int what) {
        if (!camp.isSong(song)) {
            return UNKNOWN;
        }
        switch (what) {
            case 0:
                return camp.songXs.at(song);
            case 1:
                return camp.songYs.at(song);
            case 2:
                return bitsOf(camp.loudnessOfSong(song));
            case 3:
                return toldOwnerOf(song);
            default:
                return BAD_VALUE;
        }
    }

    public int way(int camper, int x, int y, int step, int what) {
        if (!camp.isHere(camper) || !isPoint(x, y)) {
            return UNKNOWN;
        }
        if (step < 0 || what < 0 || what > 2) {
            return BAD_VALUE;
        }
        int plot = camp.plotOnWay(camper, x, y, step);
        if (plot == NO_PLOT) {
            return NONE;
        }
        if (what == 0) {
            return camp.plots.ownerOf(plot);
        }
        return what == 1 ? camp.plots.x0Of(plot) : camp.plots.y0Of(plot);
    }

    public int would(int x, int y, int what) {
        if (!isPoint(x, y)) {
            return UNKNOWN;
        }
        if (what < 0 || what > 2) {
            return BAD_VALUE;
        }
        int depth = camp.depthForNewcomer(x, y);
        if (depth < 0 || what == 0) {
            return depth;
        }
        if (what == 1) {
            return camp.songsInPart(x, y, depth);
        }
        return orNone(camp.plots.ownerAt(x, y));
    }

    public int loudest() {
        int best = NONE;
        float most = -1.0f;
        for (int camper = 0; camper < camp.campersSoFar; camper++) {
            if (camp.isHere(camper)) {
                float loudness = camp.loudnessOf(camper);
                if (loudness > most) {
                    most = loudness;
                    best = camper;
                }
            }
        }
        return best;
    }

    public float share(int camper) {
        if (!camp.isHere(camper)) {
            return -1.0f;
        }
        return (float) camp.plots.pointsOf(camper) / 4096.0f;
    }

    public int count(int what) {
        switch (what) {
            case 0:
                return camp.campersHere();
            case 1:
                return camp.campersSoFar;
            case 2:
                return camp.plots.size;
            case 3:
                return camp.songsSoFar;
            case 4:
                return camp.plots.greatestDepth();
            case 5:
                return camp.plots.leastDepth();
            case 6:
                return camp.campersWithMorePlots();
            case 7:
                return camp.halvings;
            case 8:
                return camp.joinings;
            case 9:
                return camp.takings;
            case 10:
                return history.size;
            case 11:
                return text.length;
            default:
                return BAD_VALUE;
        }
    }

    private int toldOwnerOf(int song) {
        int owner = camp.ownerOfSong(song);
        return owner == NOBODY ? SONG_OF_NOBODY : owner;
    }

    private static int orNone(int owner) {
        return owner == NOBODY ? NONE : owner;
    }

    private static boolean isPoint(int x, int y) {
        return x >= 0 && x < SIDE && y >= 0 && y < SIDE;
    }

    private static boolean isMarked(int marks, int camper) {
        return (marks & markOf(camper)) != 0;
    }

    private static int markOf(int camper) {
        return camper >= 0 && camper < MOST_CAMPERS ? 1 << camper : 0;
    }

    private static int widthAt(int depth) {
        return SIDE >> ((depth + 1) >> 1);
    }

    private static int heightAt(int depth) {
        return SIDE >> (depth >> 1);
    }

    // Widths and heights are powers of two, and a part begins at a multiple of its own: a mask finds the beginning.
    private static int partX0(int x, int depth) {
        return x & -widthAt(depth);
    }

    private static int partY0(int y, int depth) {
        return y & -heightAt(depth);
    }

    // A part of an odd depth was made by halving x, one of an even depth by halving y.
    private static int otherHalfX0(int x0, int depth) {
        return (depth & 1) == 1 ? x0 ^ widthAt(depth) : x0;
    }

    private static int otherHalfY0(int y0, int depth) {
        return (depth & 1) == 0 ? y0 ^ heightAt(depth) : y0;
    }

    // The program's language has no Float.floatToIntBits. A loudness is 0 or far inside of what floats
    // hold in full, so halving and doubling it lose nothing.
    private static int bitsOf(float loudness) {
        if (loudness <= 0.0f) {
            return 0;
        }
        float part = loudness;
        int exponent = FLOAT_BIAS;
        for (int turn = 0; turn < FLOAT_BIAS && part >= 2.0f; turn++) {
            part = part / 2.0f;
            exponent++;
        }
        for (int turn = 0; turn < FLOAT_BIAS && part < 1.0f; turn++) {
            part = part * 2.0f;
            exponent--;
        }
        return (exponent << FLOAT_FRACTION_BITS) + (int) ((part - 1.0f) * 8388608.0f);
    }

    /** Numbers in a row, each 0 at first; an index outside of it reads 0 and writes nothing. */
    private static final class Row {
        private final int[] cells;

        Row(int length) {
            cells = new int[length > 0 ? length : 0];
        }

        int at(int index) {
            return index >= 0 && index < cells.length ? cells[index] : 0;
        }

        void put(int index, int value) {
            if (index >= 0 && index < cells.length) {
                cells[index] = value;
            }
        }

        void copyFrom(Row other, int many) {
            for (int index = 0; index < many && index < cells.length && index < other.cells.length; index++) {
                cells[index] = other.cells[index];
            }
        }
    }

    /** The plots that part a field, in no order: whoever needs one asks by point, by corner or by rank. */
    private static final class Plots {
        private final Row x0s;
        private final Row y0s;
        private final Row depths;
        private final Row owners;
        private int size;

        Plots() {
            x0s = new Row(MOST_PLOTS);
            y0s = new Row(MOST_PLOTS);
            depths = new Row(MOST_PLOTS);
            owners = new Row(MOST_PLOTS);
            owners.put(0, NOBODY);
            size = 1;
        }

        void copyFrom(Plots other) {
            size = other.size;
            x0s.copyFrom(other.x0s, size);
            y0s.copyFrom(other.y0s, size);
            depths.copyFrom(other.depths, size);
            owners.copyFrom(other.owners, size);
        }

        int x0Of(int plot) {
            return x0s.at(plot);
        }

        int y0Of(int plot) {
            return y0s.at(plot);
        }

        int x1Of(int plot) {
            return x0s.at(plot) + widthAt(depths.at(plot)) - 1;
        }

        int y1Of(int plot) {
            return y0s.at(plot) + heightAt(depths.at(plot)) - 1;
        }

        int depthOf(int plot) {
            return depths.at(plot);
        }

        int ownerOf(int plot) {
            return owners.at(plot);
        }

        int ownerAt(int x, int y) {
            return owners.at(find(x, y));
        }

        boolean has(int plot, int x, int y) {
            int right = x - x0s.at(plot);
            int down = y - y0s.at(plot);
            int depth = depths.at(plot);
            return right >= 0 && right < widthAt(depth) && down >= 0 && down < heightAt(depth);
        }

        int find(int x, int y) {
            for (int plot = 0; plot < size; plot++) {
                if (has(plot, x, y)) {
                    return plot;
                }
            }
            return NO_PLOT;
        }

        int otherHalf(int plot) {
            int depth = depths.at(plot);
            if (depth == 0) {
                return NO_PLOT;
            }
            int other = find(otherHalfX0(x0s.at(plot), depth), otherHalfY0(y0s.at(plot), depth));
            return depths.at(other) == depth ? other : NO_PLOT;
        }

        boolean areBeside(int one, int other) {
            boolean shareX = x0Of(one) <= x1Of(other) && x0Of(other) <= x1Of(one);
            boolean shareY = y0Of(one) <= y1Of(other) && y0Of(other) <= y1Of(one);
            boolean meetInX = x1Of(one) + 1 == x0Of(other) || x1Of(other) + 1 == x0Of(one);
            boolean meetInY = y1Of(one) + 1 == y0Of(other) || y1Of(other) + 1 == y0Of(one);
            return meetInX && shareY || meetInY && shareX;
        }

        int manyBeside(int plot) {
            int many = 0;
            for (int other = 0; other < size; other++) {
                if (areBeside(plot, other)) {
                    many++;
                }
            }
            return many;
        }

        int ownersBeside(int plot) {
            int marks = 0;
            for (int other = 0; other < size; other++) {
                if (areBeside(plot, other)) {
                    marks |= markOf(owners.at(other));
                }
            }
            return marks;
        }

        int neighboursOf(int camper) {
            int marks = 0;
            for (int plot = 0; plot < size; plot++) {
                if (owners.at(plot) == camper) {
                    marks |= ownersBeside(plot);
                }
            }
            return Integer.bitCount(marks & ~markOf(camper));
        }

        int manyOf(int camper) {
            int many = 0;
            for (int plot = 0; plot < size; plot++) {
                if (owners.at(plot) == camper) {
                    many++;
                }
            }
            return many;
        }

        int pointsOf(int camper) {
            int points = 0;
            for (int plot = 0; plot < size; plot++) {
                if (owners.at(plot) == camper) {
                    points += widthAt(depths.at(plot)) * heightAt(depths.at(plot));
                }
            }
            return points;
        }

        boolean isCornerLower(int one, int other) {
            if (x0s.at(one) != x0s.at(other)) {
                return x0s.at(one) < x0s.at(other);
            }
            return y0s.at(one) < y0s.at(other);
        }

        int ranked(int camper, int rank) {
            for (int plot = 0; plot < size; plot++) {
                if (owners.at(plot) == camper && rankOf(plot) == rank) {
                    return plot;
                }
            }
            return NO_PLOT;
        }

        int rankOf(int plot) {
            int rank = 0;
            for (int other = 0; other < size; other++) {
                if (owners.at(other) == owners.at(plot) && isCornerLower(other, plot)) {
                    rank++;
                }
            }
            return rank;
        }

        int firstToGive(int camper) {
            int best = NO_PLOT;
            for (int plot = 0; plot < size; plot++) {
                if (owners.at(plot) == camper && (best == NO_PLOT || isGivenBefore(plot, best))) {
                    best = plot;
                }
            }
            return best;
        }

        boolean isGivenBefore(int one, int other) {
            if (depths.at(one) != depths.at(other)) {
                return depths.at(one) > depths.at(other);
            }
            return isCornerLower(one, other);
        }

        int distance(int plot, int x, int y) {
            return outside(x, x0Of(plot), x1Of(plot)) + outside(y, y0Of(plot), y1Of(plot));
        }

        static int outside(int place, int from, int to) {
            if (place < from) {
                return from - place;
            }
            return place > to ? place - to : 0;
        }

        int nextToward(int plot, int x, int y) {
            int best = NO_PLOT;
            for (int other = 0; other < size; other++) {
                if (areBeside(plot, other) && (best == NO_PLOT || isBetterStep(other, best, x, y))) {
                    best = other;
                }
            }
            return best;
        }

        boolean isBetterStep(int one, int other, int x, int y) {
            int near = distance(one, x, y);
            int far = distance(other, x, y);
            return near != far ? near < far : isCornerLower(one, other);
        }

        int greatestDepth() {
            int greatest = 0;
            for (int plot = 0; plot < size; plot++) {
                greatest = Math.max(greatest, depths.at(plot));
            }
            return greatest;
        }

        int leastDepth() {
            int least = DEEPEST;
            for (int plot = 0; plot < size; plot++) {
                least = Math.min(least, depths.at(plot));
            }
            return least;
        }

        void put(int plot, int x, int y, int depth, int owner) {
            x0s.put(plot, partX0(x, depth));
            y0s.put(plot, partY0(y, depth));
            depths.put(plot, depth);
            owners.put(plot, owner);
        }

        void add(int x, int y, int depth, int owner) {
            if (size < MOST_PLOTS) {
                put(size, x, y, depth, owner);
                size++;
            }
        }

        void remove(int plot) {
            int last = size - 1;
            x0s.put(plot, x0s.at(last));
            y0s.put(plot, y0s.at(last));
            depths.put(plot, depths.at(last));
            owners.put(plot, owners.at(last));
            size = last;
        }

        void giveTo(int plot, int owner) {
            owners.put(plot, owner);
        }

        void halveDown(int plot, int x, int y, int depth, int newcomer) {
            int owner = owners.at(plot);
            for (int level = depths.at(plot) + 1; level <= depth; level++) {
                add(otherHalfX0(partX0(x, level), level), otherHalfY0(partY0(y, level), level), level, owner);
            }
            put(plot, x, y, depth, newcomer);
        }

        void join(int plot, int other, int owner) {
            put(other, x0s.at(other), y0s.at(other), depths.at(other) - 1, owner);
            remove(plot);
        }

        void joinAll() {
            put(0, 0, 0, 0, NOBODY);
            size = 1;
        }
    }

    /** One state: the plots, the campers, the songs and what was counted so far. */
    private static final class Camp {
        private final Plots plots;
        private final Row tentXs;
        private final Row tentYs;
        private final Row heres;
        private final Row songXs;
        private final Row songYs;
        private final Row songTenths;
        private int campersSoFar;
        private int songsSoFar;
        private int halvings;
        private int joinings;
        private int takings;

        Camp() {
            plots = new Plots();
            tentXs = new Row(MOST_CAMPERS);
            tentYs = new Row(MOST_CAMPERS);
            heres = new Row(MOST_CAMPERS);
            songXs = new Row(MOST_SONGS);
            songYs = new Row(MOST_SONGS);
            songTenths = new Row(MOST_SONGS);
        }

        void copyFrom(Camp other) {
            campersSoFar = other.campersSoFar;
            songsSoFar = other.songsSoFar;
            halvings = other.halvings;
            joinings = other.joinings;
            takings = other.takings;
            plots.copyFrom(other.plots);
            tentXs.copyFrom(other.tentXs, campersSoFar);
            tentYs.copyFrom(other.tentYs, campersSoFar);
            heres.copyFrom(other.heres, campersSoFar);
            songXs.copyFrom(other.songXs, songsSoFar);
            songYs.copyFrom(other.songYs, songsSoFar);
            songTenths.copyFrom(other.songTenths, songsSoFar);
        }

        boolean isHere(int camper) {
            return camper >= 0 && camper < campersSoFar && heres.at(camper) == 1;
        }

        int campersHere() {
            int many = 0;
            for (int camper = 0; camper < campersSoFar; camper++) {
                many += heres.at(camper);
            }
            return many;
        }

        int campersWithMorePlots() {
            int many = 0;
            for (int camper = 0; camper < campersSoFar; camper++) {
                if (plots.manyOf(camper) > 1) {
                    many++;
                }
            }
            return many;
        }

        boolean isTentIn(int plot, int camper) {
            return isHere(camper) && plots.has(plot, tentXs.at(camper), tentYs.at(camper));
        }

        /** The depth of what a camper who comes to a point would get, or the error of come() for that point. */
        int depthForNewcomer(int x, int y) {
            if (campersSoFar >= MOST_CAMPERS) {
                return FULL;
            }
            int plot = plots.find(x, y);
            int owner = plots.ownerOf(plot);
            int depth = plots.depthOf(plot);
            if (owner == NOBODY) {
                return depth;
            }
            boolean isTentInside = isTentIn(plot, owner);
            for (int level = depth + 1; level <= DEEPEST; level++) {
                if (!isTentInside || !isInPart(tentXs.at(owner), tentYs.at(owner), x, y, level)) {
                    return level;
                }
            }
            return NOT_POSSIBLE;
        }

        static boolean isInPart(int x, int y, int partX, int partY, int depth) {
            return partX0(x, depth) == partX0(partX, depth) && partY0(y, depth) == partY0(partY, depth);
        }

        int settle(int x, int y, int depth) {
            int newcomer = campersSoFar;
            int plot = plots.find(x, y);
            halvings += depth - plots.depthOf(plot);
            plots.halveDown(plot, x, y, depth, newcomer);
            heres.put(newcomer, 1);
            pitch(newcomer, x, y);
            campersSoFar = newcomer + 1;
            return newcomer;
        }

        void pitch(int camper, int x, int y) {
            tentXs.put(camper, x);
            tentYs.put(camper, y);
        }

        void sendAway(int camper) {
            heres.put(camper, 0);
            if (campersHere() == 0) {
                plots.joinAll();
                return;
            }
            // Each turn leaves the camper one plot less: given away, or one with its other half.
            for (int turn = 0; turn < MOST_PLOTS; turn++) {
                int plot = plots.firstToGive(camper);
                if (plot == NO_PLOT) {
                    return;
                }
                giveAway(plot);
            }
        }

        void giveAway(int plot) {
            int other = plots.otherHalf(plot);
            if (other == NO_PLOT) {
                plots.giveTo(plot, leastOf(plots.ownersBeside(plot)));
                takings++;
            } else {
                plots.join(plot, other, plots.ownerOf(other));
                joinings++;
            }
        }

        /** The one with the least area among those marked who are here: the one who leaves is not here any more. */
        int leastOf(int marks) {
            int best = NOBODY;
            int least = 0;
            for (int camper = 0; camper < campersSoFar; camper++) {
                if (isHere(camper) && isMarked(marks, camper)) {
                    int points = plots.pointsOf(camper);
                    if (best == NOBODY || points < least) {
                        best = camper;
                        least = points;
                    }
                }
            }
            return best;
        }

        void passOn(int plot, int camper) {
            plots.giveTo(plot, camper);
            int other = plots.otherHalf(plot);
            if (other != NO_PLOT && plots.ownerOf(other) == camper) {
                plots.join(plot, other, camper);
                joinings++;
            }
        }

        int plotOnWay(int camper, int x, int y, int step) {
            // Each step comes nearer to the point, so that no plot is on a way twice.
            if (step >= MOST_PLOTS) {
                return NO_PLOT;
            }
            int plot = plots.find(tentXs.at(camper), tentYs.at(camper));
            for (int done = 0; done < step; done++) {
                if (plot == NO_PLOT || plots.has(plot, x, y)) {
                    return NO_PLOT;
                }
                plot = plots.nextToward(plot, x, y);
            }
            return plot;
        }

        boolean isSong(int song) {
            return song >= 0 && song < songsSoFar;
        }

        int addSong(int x, int y, int tenths) {
            int song = songsSoFar;
            songTenths.put(song, tenths);
            putSong(song, x, y);
            songsSoFar = song + 1;
            return song;
        }

        void putSong(int song, int x, int y) {
            songXs.put(song, x);
            songYs.put(song, y);
        }

        int ownerOfSong(int song) {
            return plots.ownerAt(songXs.at(song), songYs.at(song));
        }

        int songsOf(int camper) {
            int many = 0;
            for (int song = 0; song < songsSoFar; song++) {
                if (ownerOfSong(song) == camper) {
                    many++;
                }
            }
            return many;
        }

        int songsInPart(int x, int y, int depth) {
            int many = 0;
            for (int song = 0; song < songsSoFar; song++) {
                if (isInPart(songXs.at(song), songYs.at(song), x, y, depth)) {
                    many++;
                }
            }
            return many;
        }

        float loudnessOfSong(int song) {
            return (float) songTenths.at(song) / 10.0f;
        }

        float loudnessOf(int camper) {
            float sum = 0.0f;
            for (int song = 0; song < songsSoFar; song++) {
                if (ownerOfSong(song) == camper) {
                    sum = sum + loudnessOfSong(song);
                }
            }
            return sum;
        }
    }

    /** The latest states, in a ring: the oldest one lies where the next one is put. */
    private static final class History {
        private final Camp[] states;
        private int latest;
        private int size;

        History() {
            states = new Camp[MOST_STATES];
            for (int place = 0; place < states.length; place++) {
                states[place] = new Camp();
            }
        }

        void push(Camp camp) {
            latest = latest + 1 < MOST_STATES ? latest + 1 : 0;
            size = Math.min(size + 1, MOST_STATES);
            Camp state = stateAt(latest);
            if (state != null) {
                state.copyFrom(camp);
            }
        }

        void pop(Camp camp) {
            Camp state = stateAt(latest);
            if (size > 0 && state != null) {
                camp.copyFrom(state);
                size--;
                latest = latest > 0 ? latest - 1 : MOST_STATES - 1;
            }
        }

        Camp stateAt(int place) {
            return place >= 0 && place < states.length ? states[place] : null;
        }
    }

    /** The text of campers, as it was typed. */
    private static final class CampText {
        private final char[] characters;
        private int length;

        CampText() {
            characters = new char[MOST_CHARACTERS];
        }

        boolean append(char character) {
            if (length < 0 || length >= characters.length) {
                return false;
            }
            characters[length] = character;
            length++;
            return true;
        }

        char at(int index) {
            return index >= 0 && index < characters.length ? characters[index] : 0;
        }

        static boolean isDigit(char character) {
            return character >= '0' && character <= '9';
        }

        int fault() {
            int number = NO_NUMBER;
            boolean isY = false;
            for (int index = 0; index < length; index++) {
                char character = at(index);
                if (isDigit(character)) {
                    number = extended(number, character - '0');
                    if (number == NO_NUMBER) {
                        return index;
                    }
                } else if (number != NO_NUMBER && character == (isY ? ';' : ',')) {
                    number = NO_NUMBER;
                    isY = !isY;
                } else {
                    return index;
                }
            }
            return isY && number != NO_NUMBER ? NO_FAULT : length;
        }

        /** The number with one digit more, or NO_NUMBER if the digit is not allowed behind it. */
        static int extended(int number, int digit) {
            if (number == NO_NUMBER) {
                return digit;
            }
            int longer = number * 10 + digit;
            return number == 0 || longer >= SIDE ? NO_NUMBER : longer;
        }

        int campers() {
            int many = 1;
            for (int index = 0; index < length; index++) {
                if (at(index) == ';') {
                    many++;
                }
            }
            return many;
        }

        int number(int rank) {
            int separators = 0;
            int value = 0;
            for (int index = 0; index < length; index++) {
                char character = at(index);
                if (!isDigit(character)) {
                    separators++;
                } else if (separators == rank) {
                    value = value * 10 + (character - '0');
                }
            }
            return value;
        }
    }
}
