import java.util.ArrayList;
import java.util.HashSet;
import java.util.List;
import java.util.Set;
import java.util.regex.Matcher;
import java.util.regex.Pattern;

/**
 * The document once more, in another way, to compare with: a tree of halves whose sides are found point by
 * point. It shares no code and no way of counting with TentFields.
 */
final class SlowField {
    static final int UNKNOWN = -1, BAD_VALUE = -2, FULL = -3, NOT_POSSIBLE = -4, NONE = -5;
    private static final String NUMBER = "(?:0|[1-9]|[1-5][0-9]|6[0-3])";
    private static final Pattern TEXT =
            Pattern.compile(NUMBER + "," + NUMBER + "(?:;" + NUMBER + "," + NUMBER + ")*");

    static final class Node {
        int x0, y0, x1, y1, depth, owner = -1;
        Node low, high, parent;

        boolean isPlot() {
            return low == null;
        }

        boolean has(int x, int y) {
            return x0 <= x && x <= x1 && y0 <= y && y <= y1;
        }

        int points() {
            return (x1 - x0 + 1) * (y1 - y0 + 1);
        }

        Node copy(Node newParent) {
            Node node = new Node();
            node.x0 = x0;
            node.y0 = y0;
            node.x1 = x1;
            node.y1 = y1;
            node.depth = depth;
            node.owner = owner;
            node.parent = newParent;
            if (low != null) {
                node.low = low.copy(node);
                node.high = high.copy(node);
            }
            return node;
        }

        void halve() {
            Node first = copy(this);
            Node second = copy(this);
            low = first;
            high = second;
            low.depth++;
            high.depth++;
            if (depth % 2 == 0) {
                low.x1 = (x0 + x1) / 2;
                high.x0 = low.x1 + 1;
            } else {
                low.y1 = (y0 + y1) / 2;
                high.y0 = low.y1 + 1;
            }
        }

        Node otherHalf() {
            return parent == null ? null : parent.low == this ? parent.high : parent.low;
        }
    }

    static final class Camper {
        int x, y;
        boolean here = true;
    }

    static final class State {
        Node root;
        List<Camper> campers = new ArrayList<>();
        List<int[]> songs = new ArrayList<>();
        int halvings, joinings, takings;

        State copy() {
            State state = new State();
            state.root = root.copy(null);
            for (Camper camper : campers) {
                Camper same = new Camper();
                same.x = camper.x;
                same.y = camper.y;
                same.here = camper.here;
                state.campers.add(same);
            }
            for (int[] song : songs) {
                state.songs.add(song.clone());
            }
            state.halvings = halvings;
            state.joinings = joinings;
            state.takings = takings;
            return state;
        }
    }

    State now = new State();
    private State kept = null;
    private final List<State> history = new ArrayList<>();
    private String text = "";

    SlowField() {
        now.root = wholeField();
    }

    private static Node wholeField() {
        Node node = new Node();
        node.x1 = 63;
        node.y1 = 63;
        return node;
    }

    // ---- helpers

    static boolean isPoint(int x, int y) {
        return x >= 0 && x <= 63 && y >= 0 && y <= 63;
    }

    boolean isHere(int camper) {
        return camper >= 0 && camper < now.campers.size() && now.campers.get(camper).here;
    }

    int here() {
        int many = 0;
        for (Camper camper : now.campers) {
            many += camper.here ? 1 : 0;
        }
        return many;
    }

    List<Node> plots() {
        List<Node> found = new ArrayList<>();
        collect(now.root, found);
        return found;
    }

    private static void collect(Node node, List<Node> found) {
        if (node.isPlot()) {
            found.add(node);
        } else {
            collect(node.low, found);
            collect(node.high, found);
        }
    }

    List<Node> plotsOf(int camper) {
        List<Node> found = plots();
        found.removeIf(node -> node.owner != camper);
        found.sort((a, b) -> a.x0 != b.x0 ? Integer.compare(a.x0, b.x0) : Integer.compare(a.y0, b.y0));
        return found;
    }

    Node at(int x, int y) {
        Node node = now.root;
        while (!node.isPlot()) {
            node = node.low.has(x, y) ? node.low : node.high;
        }
        return node;
    }

    Set<Node> beside(Node plot) {
        Set<Node> found = new HashSet<>();
        int[][] steps = {{1, 0}, {-1, 0}, {0, 1}, {0, -1}};
        for (int x = plot.x0; x <= plot.x1; x++) {
            for (int y = plot.y0; y <= plot.y1; y++) {
                for (int[] step : steps) {
                    if (isPoint(x + step[0], y + step[1])) {
                        found.add(at(x + step[0], y + step[1]));
                    }
                }
            }
        }
        found.remove(plot);
        return found;
    }

    int area(int camper) {
        int points = 0;
        for (Node plot : plotsOf(camper)) {
            points += plot.points();
        }
        return points;
    }

    private void record(State before) {
        history.add(before);
        if (history.size() > 4) {
            history.remove(0);
        }
    }

    private void joinChildren(Node parent, int owner) {
        parent.low = null;
        parent.high = null;
        parent.owner = owner;
        now.joinings++;
    }

    // ---- campers

    int come(int x, int y) {
        State before = now.copy();
        int answer = comeWithoutRecord(x, y);
        if (answer >= 0) {
            record(before);
        }
        return answer;
    }

    private int comeWithoutRecord(int x, int y) {
        if (!isPoint(x, y)) {
            return UNKNOWN;
        }
        if (now.campers.size() == 16) {
            return FULL;
        }
        Node plot = at(x, y);
        int number = now.campers.size();
        if (plot.owner >= 0) {
            Camper owner = now.campers.get(plot.owner);
            if (plot.depth == 12 || owner.x == x && owner.y == y) {
                return NOT_POSSIBLE;
            }
            do {
                plot.halve();
                now.halvings++;
                plot = plot.low.has(x, y) ? plot.low : plot.high;
            } while (plot.has(owner.x, owner.y));
        }
        plot.owner = number;
        Camper camper = new Camper();
        camper.x = x;
        camper.y = y;
        now.campers.add(camper);
        return number;
    }

    int comeAll() {
        int fault = fault(text);
        if (fault >= 0) {
            return -100 - fault;
        }
        State before = now.copy();
        String[] parts = text.split(";");
        for (String part : parts) {
            String[] numbers = part.split(",");
            int answer = comeWithoutRecord(Integer.parseInt(numbers[0]), Integer.parseInt(numbers[1]));
            if (answer < 0) {
                now = before;
                return answer;
            }
        }
        record(before);
        return parts.length;
    }

    static int fault(String text) {
        for (int length = 1; length <= text.length(); length++) {
            Matcher matcher = TEXT.matcher(text.substring(0, length));
            if (!matcher.matches() && !matcher.hitEnd()) {
                return length - 1;
            }
        }
        return TEXT.matcher(text).matches() ? -1 : text.length();
    }

    int leave(int camper) {
        if (!isHere(camper)) {
            return UNKNOWN;
        }
        record(now.copy());
        now.campers.get(camper).here = false;
        if (here() == 0) {
            now.root = wholeField();
            return 0;
        }
        while (!plotsOf(camper).isEmpty()) {
            List<Node> own = plotsOf(camper);
            own.sort((a, b) -> Integer.compare(b.depth, a.depth));
            Node plot = own.get(0);
            Node other = plot.otherHalf();
            if (other != null && other.isPlot()) {
                joinChildren(plot.parent, other.owner);
            } else {
                int best = -1;
                for (Node node : beside(plot)) {
                    int owner = node.owner;
                    if (owner != camper && (best < 0 || area(owner) < area(best)
                            || area(owner) == area(best) && owner < best)) {
                        best = owner;
                    }
                }
                plot.owner = best;
                now.takings++;
            }
        }
        return here();
    }

    int moveTent(int camper, int x, int y) {
        if (!isHere(camper) || !isPoint(x, y)) {
            return UNKNOWN;
        }
        if (at(x, y).owner != camper) {
            return NOT_POSSIBLE;
        }
        if (now.campers.get(camper).x == x && now.campers.get(camper).y == y) {
            return NONE;
        }
        record(now.copy());
        now.campers.get(camper).x = x;
        now.campers.get(camper).y = y;
        return at(x, y).depth;
    }

    int handOver(int x, int y, int camper) {
        if (!isPoint(x, y) || !isHere(camper)) {
            return UNKNOWN;
        }
        int had = at(x, y).owner;
        Camper owner = now.campers.get(had);
        boolean touches = false;
        for (Node node : beside(at(x, y))) {
            touches |= node.owner == camper;
        }
        if (at(x, y).has(owner.x, owner.y) || !touches) {
            return NOT_POSSIBLE;
        }
        if (had == camper) {
            return NONE;
        }
        record(now.copy());
        Node plot = at(x, y);
        plot.owner = camper;
        Node other = plot.otherHalf();
        if (other != null && other.isPlot() && other.owner == camper) {
            joinChildren(plot.parent, camper);
        }
        return had;
    }

    // ---- songs

    int lay(int x, int y, int tenths) {
        if (!isPoint(x, y)) {
            return UNKNOWN;
        }
        if (tenths < 1 || tenths > 999) {
            return BAD_VALUE;
        }
        if (now.songs.size() == 20) {
            return FULL;
        }
        record(now.copy());
        now.songs.add(new int[] {x, y, tenths});
        return now.songs.size() - 1;
    }

    int carry(int song, int x, int y) {
        if (song < 0 || song >= now.songs.size() || !isPoint(x, y)) {
            return UNKNOWN;
        }
        if (now.songs.get(song)[0] == x && now.songs.get(song)[1] == y) {
            return NONE;
        }
        record(now.copy());
        now.songs.get(song)[0] = x;
        now.songs.get(song)[1] = y;
        return songOwner(song);
    }

    private int songOwner(int song) {
        int owner = at(now.songs.get(song)[0], now.songs.get(song)[1]).owner;
        return owner < 0 ? 100 : owner;
    }

    // ---- texts

    int type(char character) {
        if (text.length() == 60) {
            return FULL;
        }
        text += character;
        return text.length();
    }

    int clearText() {
        int length = text.length();
        text = "";
        return length;
    }

    // ---- history

    int undo() {
        if (history.isEmpty()) {
            return NONE;
        }
        now = history.remove(history.size() - 1);
        return history.size();
    }

    int keep() {
        kept = now.copy();
        return here();
    }

    int restore() {
        if (kept == null) {
            return NONE;
        }
        record(now);
        now = kept.copy();
        return here();
    }

    // ---- what is told

    int plot(int x, int y, int what) {
        if (!isPoint(x, y)) {
            return UNKNOWN;
        }
        if (what < 0 || what > 6) {
            return BAD_VALUE;
        }
        Node plot = at(x, y);
        int owner = plot.owner < 0 ? NONE : plot.owner;
        return new int[] {owner, plot.depth, plot.x0, plot.y0, plot.x1, plot.y1, beside(plot).size()}[what];
    }

    int camper(int camper, int what) {
        if (!isHere(camper)) {
            return UNKNOWN;
        }
        if (what < 0 || what > 6) {
            return BAD_VALUE;
        }
        int songs = 0;
        for (int song = 0; song < now.songs.size(); song++) {
            songs += songOwner(song) == camper ? 1 : 0;
        }
        Set<Integer> neighbours = new HashSet<>();
        for (Node plot : plotsOf(camper)) {
            for (Node node : beside(plot)) {
                neighbours.add(node.owner);
            }
        }
        neighbours.remove(camper);
        Camper one = now.campers.get(camper);
        return new int[] {one.x, one.y, plotsOf(camper).size(), area(camper), songs, neighbours.size(),
            Float.floatToIntBits(loudness(camper))}[what];
    }

    private float loudness(int camper) {
        float sum = 0.0f;
        for (int song = 0; song < now.songs.size(); song++) {
            if (songOwner(song) == camper) {
                sum += (float) now.songs.get(song)[2] / 10.0f;
            }
        }
        return sum;
    }

    int plotOf(int camper, int rank, int what) {
        if (!isHere(camper)) {
            return UNKNOWN;
        }
        if (rank < 0 || what < 0 || what > 2) {
            return BAD_VALUE;
        }
        List<Node> own = plotsOf(camper);
        if (rank >= own.size()) {
            return NONE;
        }
        Node plot = own.get(rank);
        return new int[] {plot.x0, plot.y0, plot.depth}[what];
    }

    int song(int song, int what) {
        if (song < 0 || song >= now.songs.size()) {
            return UNKNOWN;
        }
        if (what < 0 || what > 3) {
            return BAD_VALUE;
        }
        int[] one = now.songs.get(song);
        return new int[] {one[0], one[1], Float.floatToIntBits((float) one[2] / 10.0f), songOwner(song)}[what];
    }

    private static int distance(Node plot, int x, int y) {
        int least = 1000;
        for (int px = plot.x0; px <= plot.x1; px++) {
            for (int py = plot.y0; py <= plot.y1; py++) {
                least = Math.min(least, Math.abs(px - x) + Math.abs(py - y));
            }
        }
        return least;
    }

    int way(int camper, int x, int y, int step, int what) {
        if (!isHere(camper) || !isPoint(x, y)) {
            return UNKNOWN;
        }
        if (step < 0 || what < 0 || what > 2) {
            return BAD_VALUE;
        }
        List<Node> way = new ArrayList<>();
        way.add(at(now.campers.get(camper).x, now.campers.get(camper).y));
        while (!way.get(way.size() - 1).has(x, y)) {
            List<Node> next = new ArrayList<>(beside(way.get(way.size() - 1)));
            next.sort((a, b) -> distance(a, x, y) != distance(b, x, y)
                    ? Integer.compare(distance(a, x, y), distance(b, x, y))
                    : a.x0 != b.x0 ? Integer.compare(a.x0, b.x0) : Integer.compare(a.y0, b.y0));
            way.add(next.get(0));
        }
        if (step >= way.size()) {
            return NONE;
        }
        Node plot = way.get(step);
        return new int[] {plot.owner, plot.x0, plot.y0}[what];
    }

    int would(int x, int y, int what) {
        if (!isPoint(x, y)) {
            return UNKNOWN;
        }
        if (what < 0 || what > 2) {
            return BAD_VALUE;
        }
        State before = now;
        now = before.copy();
        int owner = at(x, y).owner;
        int answer = comeWithoutRecord(x, y);
        if (answer >= 0) {
            int songs = camper(answer, 4);
            answer = new int[] {at(x, y).depth, songs, owner < 0 ? NONE : owner}[what];
        }
        now = before;
        return answer;
    }

    int loudest() {
        int best = NONE;
        for (int camper = 0; camper < now.campers.size(); camper++) {
            if (isHere(camper) && (best == NONE || loudness(camper) > loudness(best))) {
                best = camper;
            }
        }
        return best;
    }

    float share(int camper) {
        return isHere(camper) ? (float) area(camper) / 4096.0f : -1.0f;
    }

    int count(int what) {
        if (what < 0 || what > 11) {
            return BAD_VALUE;
        }
        int greatest = 0;
        int least = 12;
        for (Node plot : plots()) {
            greatest = Math.max(greatest, plot.depth);
            least = Math.min(least, plot.depth);
        }
        int withMore = 0;
        for (int camper = 0; camper < now.campers.size(); camper++) {
            withMore += plotsOf(camper).size() > 1 ? 1 : 0;
        }
        return new int[] {here(), now.campers.size(), plots().size(), now.songs.size(), greatest, least, withMore,
            now.halvings, now.joinings, now.takings, history.size(), text.length()}[what];
    }
}
