import java.util.ArrayDeque;
import java.util.ArrayList;
import java.util.Arrays;
import java.util.Deque;
import java.util.List;

/**
 * The document once more, written on its own and as bluntly as can be (no pruning, no sets of bits
 * inside, copies of everything), for the class to be compared with by ModelTest.
 */
final class CurtainModel {
    static final class Actor {
        int column;
        int tall;
        int cloth;
        int pieces;
        int bared;

        Actor copy() {
            Actor b = new Actor();
            b.column = column;
            b.tall = tall;
            b.cloth = cloth;
            b.pieces = pieces;
            b.bared = bared;
            return b;
        }
    }

    static final class Cell {
        int cloth;
        boolean hole;
        int patches;

        Cell copy() {
            Cell b = new Cell();
            b.cloth = cloth;
            b.hole = hole;
            b.patches = patches;
            return b;
        }
    }

    /** What section 2 changes, with the cloths and sizes beside it. */
    static final class World {
        int w;
        int g;
        int[][] cloths = {{10, 0, 5}, {10, 0, 5}, {10, 0, 5}, {10, 0, 5}, {10, 0, 5}};
        List<Cell> cells = new ArrayList<>();
        List<Actor> actors = new ArrayList<>();
        int nights;

        World copy() {
            World b = new World();
            b.w = w;
            b.g = g;
            b.cloths = cloths;
            for (Cell c : cells) {
                b.cells.add(c.copy());
            }
            for (Actor a : actors) {
                b.actors.add(a.copy());
            }
            b.nights = nights;
            return b;
        }

        boolean left(int x) {
            return x < w / 2;
        }

        boolean right(int x) {
            return x >= w - w / 2;
        }

        int leans() {
            int l = 0;
            int r = 0;
            for (int c = 0; c < cells.size(); c++) {
                if (!cells.get(c).hole) {
                    int v = cloths[cells.get(c).cloth][0];
                    if (left(c % w)) {
                        l += v;
                    } else if (right(c % w)) {
                        r += v;
                    }
                }
            }
            return (l - r) / 100;
        }

        int hangs(int c) {
            int row = c / w;
            if (left(c % w)) {
                return row - leans();
            }
            return right(c % w) ? row + leans() : row;
        }

        boolean shown(Actor a) {
            for (int c = 0; c < cells.size(); c++) {
                if (cells.get(c).hole && c % w == a.column && hangs(c) >= 0 && hangs(c) < a.tall) {
                    return true;
                }
            }
            return false;
        }

        int shown() {
            int set = 0;
            for (int a = 0; a < actors.size(); a++) {
                set += shown(actors.get(a)) ? 1 << a : 0;
            }
            return set;
        }

        int night() {
            int set = shown();
            for (int i = 0; i < actors.size(); i++) {
                Actor a = actors.get(i);
                if ((set >> i) % 2 == 0) {
                    continue;
                }
                if (a.pieces == 0) {
                    a.bared++;
                    continue;
                }
                for (int c = 0; c < cells.size(); c++) {
                    if (c % w == a.column && cells.get(c).hole) {
                        cells.get(c).hole = false;
                        cells.get(c).cloth = a.cloth;
                        cells.get(c).patches++;
                        a.pieces--;
                        break;
                    }
                }
            }
            nights++;
            return set;
        }

        int holes() {
            int set = 0;
            for (int c = 0; c < cells.size(); c++) {
                set += cells.get(c).hole ? 1 << c : 0;
            }
            return set;
        }

        int weight() {
            int sum = 0;
            for (Cell c : cells) {
                sum += c.hole ? 0 : cloths[c.cloth][0];
            }
            return sum;
        }

        int bared() {
            int sum = 0;
            for (Actor a : actors) {
                sum += a.bared;
            }
            return sum;
        }
    }

    private final StringBuilder text = new StringBuilder();
    private World world = new World();
    private long seed = 0;
    private int fault = -1;
    private final Deque<World> past = new ArrayDeque<>();
    private final World[] images = new World[2];
    private final long[] imageSeeds = new long[2];
    private final List<int[]> seen = new ArrayList<>();
    private final List<int[]> book = new ArrayList<>();

    // ---- the text

    /** A token: where it starts, and its letters; "" is the end. */
    private record Token(int from, String letters) {
        boolean number() {
            return !letters.isEmpty() && Character.digit(letters.charAt(0), 10) >= 0 && letters.charAt(0) < 128;
        }
    }

    private static List<Token> tokens(String s) {
        List<Token> all = new ArrayList<>();
        int i = 0;
        while (i < s.length()) {
            if (s.charAt(i) == ' ') {
                i++;
                continue;
            }
            int j = i;
            while (j < s.length() && s.charAt(j) >= '0' && s.charAt(j) <= '9') {
                j++;
            }
            j = Math.max(j, i + 1);
            all.add(new Token(i, s.substring(i, j)));
            i = j;
        }
        all.add(new Token(s.length(), ""));
        return all;
    }

    private static final class Faulty extends RuntimeException {
        private static final long serialVersionUID = 1L;
        final int kind;
        final int at;

        Faulty(int kind, int at) {
            this.kind = kind;
            this.at = at;
        }
    }

    /** Low and high of each number of a clause; a high of -1 is a cell's, of -2 a column's. */
    private static int[][] bounds(String word) {
        switch (word) {
            case "k": return new int[][] {{1, 5}, {1, 4}, {0, 4}};
            case "c": return new int[][] {{0, 4}, {0, 99}, {0, 9}, {1, 60}};
            case "h": return new int[][] {{0, -1}};
            case "a": return new int[][] {{0, -2}, {1, 4}, {0, 4}, {0, 9}};
            default: return null;
        }
    }

    private static World parse(String s) {
        World world = new World();
        List<Token> all = tokens(s);
        boolean[] clothTold = new boolean[5];
        int t = 0;
        while (!all.get(t).letters().isEmpty()) {
            Token word = all.get(t++);
            int[][] bounds = bounds(word.letters());
            if (bounds == null || (t == 1 && !word.letters().equals("k"))) {
                throw new Faulty(1, word.from());
            }
            if (t > 1 && word.letters().equals("k") || word.letters().equals("a") && world.actors.size() == 5) {
                throw new Faulty(3, word.from());
            }
            List<Integer> numbers = new ArrayList<>();
            for (int[] b : bounds) {
                Token n = all.get(t++);
                if (!n.number()) {
                    throw new Faulty(1, n.from());
                }
                int high = b[1] == -1 ? world.w * world.g - 1 : b[1] == -2 ? world.w - 1 : b[1];
                if (n.letters().length() > 3 || Integer.parseInt(n.letters()) < b[0] || Integer.parseInt(n.letters()) > high) {
                    throw new Faulty(2, n.from());
                }
                int value = Integer.parseInt(n.letters());
                boolean first = numbers.isEmpty();
                if (first && word.letters().equals("c") && clothTold[value]
                        || word.letters().equals("h") && world.cells.get(value).hole) {
                    throw new Faulty(4, n.from());
                }
                numbers.add(value);
            }
            Token end = all.get(t++);
            if (!end.letters().equals(";")) {
                throw new Faulty(1, end.from());
            }
            take(world, word.letters(), numbers, clothTold);
        }
        return world;
    }

    private static void take(World world, String word, List<Integer> n, boolean[] clothTold) {
        switch (word) {
            case "k":
                world.w = n.get(0);
                world.g = n.get(1);
                for (int c = 0; c < world.w * world.g; c++) {
                    Cell cell = new Cell();
                    cell.cloth = n.get(2);
                    world.cells.add(cell);
                }
                break;
            case "c":
                clothTold[n.get(0)] = true;
                world.cloths[n.get(0)] = new int[] {n.get(1), n.get(2), n.get(3)};
                break;
            case "h":
                world.cells.get(n.get(0)).hole = true;
                break;
            default:
                Actor a = new Actor();
                a.column = n.get(0);
                a.tall = n.get(1);
                a.cloth = n.get(2);
                a.pieces = n.get(3);
                world.actors.add(a);
                break;
        }
    }

    int feed(int letter) {
        if (letter < 0 || letter > 255) {
            return Due.OUTSIDE;
        }
        if (text.length() == 240) {
            return Due.FULL;
        }
        text.append((char) letter);
        return text.length();
    }

    int house() {
        String s = text.toString();
        text.setLength(0);
        World next;
        try {
            next = parse(s);
        } catch (Faulty f) {
            fault = f.at;
            return -10 - f.kind;
        }
        fault = -1;
        world = next;
        past.clear();
        seen.clear();
        book.clear();
        Arrays.fill(images, null);
        return world.actors.size();
    }

    int fault() {
        return fault;
    }

    // ---- what is told

    private boolean noCell(int c) {
        return c < 0 || c >= world.cells.size();
    }

    private boolean noActor(int a) {
        return a < 0 || a >= world.actors.size();
    }

    int told(int what) {
        if (what < 0 || what > 12) {
            return Due.OUTSIDE;
        }
        int[] all = {world.w, world.g, world.actors.size(), text.length(), world.nights, world.holes(), world.shown(),
            world.bared(), world.weight() / 50, world.leans() + 100, seen.size(), book.size(), past.size()};
        return all[what];
    }

    int cell(int c, int what) {
        if (noCell(c)) {
            return Due.UNKNOWN;
        }
        if (what < 0 || what > 3) {
            return Due.OUTSIDE;
        }
        Cell cell = world.cells.get(c);
        return new int[] {cell.cloth, cell.hole ? 1 : 0, cell.patches, world.hangs(c) + 100}[what];
    }

    int cloth(int k, int what) {
        if (k < 0 || k > 4) {
            return Due.UNKNOWN;
        }
        return what < 0 || what > 2 ? Due.OUTSIDE : world.cloths[k][what];
    }

    int actor(int a, int what) {
        if (noActor(a)) {
            return Due.UNKNOWN;
        }
        if (what < 0 || what > 4) {
            return Due.OUTSIDE;
        }
        Actor b = world.actors.get(a);
        return new int[] {b.column, b.tall, b.cloth, b.pieces, b.bared}[what];
    }

    // ---- what is done

    private void remember() {
        past.addLast(world.copy());
        if (past.size() > 20) {
            past.removeFirst();
        }
    }

    private int refused(int n) {
        if (n < 1 || n > 20) {
            return Due.OUTSIDE;
        }
        if (world.w == 0) {
            return Due.NOT;
        }
        return world.nights > 9000 ? Due.FULL : 0;
    }

    int night(int n) {
        if (refused(n) != 0) {
            return refused(n);
        }
        remember();
        int set = 0;
        for (int i = 0; i < n; i++) {
            set = world.night();
        }
        return set;
    }

    int cut(int c) {
        if (noCell(c)) {
            return Due.UNKNOWN;
        }
        if (world.cells.get(c).hole) {
            return Due.NOT;
        }
        remember();
        world.cells.get(c).hole = true;
        return Integer.bitCount(world.holes());
    }

    int go(int a, int x) {
        if (noActor(a) || x < 0 || x >= world.w) {
            return Due.UNKNOWN;
        }
        remember();
        int was = world.actors.get(a).column;
        world.actors.get(a).column = x;
        return was;
    }

    int dress(int a, int k, int n) {
        if (noActor(a) || k < 0 || k > 4) {
            return Due.UNKNOWN;
        }
        if (n < 0 || n > 9) {
            return Due.OUTSIDE;
        }
        remember();
        int had = world.actors.get(a).pieces;
        world.actors.get(a).cloth = k;
        world.actors.get(a).pieces = n;
        return had;
    }

    private int draw(int n) {
        seed = (seed * 1103515245L + 12345L) % (1L << 31);
        return (int) (seed / 65536 % n);
    }

    int drift(int n) {
        if (refused(n) != 0) {
            return refused(n);
        }
        remember();
        for (int i = 0; i < n; i++) {
            Cell cell = world.cells.get(draw(world.cells.size()));
            if (draw(10) < world.cloths[cell.cloth][1]) {
                cell.hole = true;
            }
            world.night();
        }
        return world.holes();
    }

    int undo() {
        if (past.isEmpty()) {
            return Due.NOT;
        }
        world = past.removeLast();
        return past.size();
    }

    // ---- tried

    int who(int n) {
        if (n < 0 || n > 20) {
            return Due.OUTSIDE;
        }
        World trial = world.copy();
        int set = 0;
        for (int i = 0; i <= n; i++) {
            set = trial.night();
        }
        return set;
    }

    int wholeBy() {
        World trial = world.copy();
        int n = 0;
        while (n <= 40) {
            if (trial.holes() == 0) {
                return n;
            }
            trial.night();
            n++;
        }
        return -1;
    }

    private int bestBared;
    private int[] bestColumns;

    private void place(int a, int n, int[] columns, int next) {
        if (next < columns.length) {
            for (int x = 0; x < world.w; x++) {
                columns[next] = x;
                place(a, n, columns, next + 1);
            }
            return;
        }
        World trial = world.copy();
        for (int i = 0; i < columns.length; i++) {
            trial.actors.get(i).column = columns[i];
            trial.actors.get(i).bared = 0;
        }
        for (int i = 0; i < n; i++) {
            trial.night();
        }
        if (trial.holes() == 0 && trial.actors.get(a).bared == 0 && (bestColumns == null || trial.bared() < bestBared)) {
            bestBared = trial.bared();
            bestColumns = columns.clone();
        }
    }

    int stands(int a, int n, int i) {
        if (noActor(a) || i != -1 && noActor(i)) {
            return Due.UNKNOWN;
        }
        if (n < 1 || n > 20) {
            return Due.OUTSIDE;
        }
        bestColumns = null;
        place(a, n, new int[world.actors.size()], 0);
        if (bestColumns == null) {
            return -1;
        }
        return i == -1 ? bestBared : bestColumns[i];
    }

    int hidden() {
        int set = 0;
        for (int c = 0; c < world.cells.size(); c++) {
            if (world.cells.get(c).hole && (world.hangs(c) < 0 || world.hangs(c) > 3)) {
                set |= 1 << c;
            }
        }
        return set;
    }

    int cannot() {
        int set = 0;
        for (int c = 0; c < world.cells.size(); c++) {
            boolean someone = false;
            for (Actor a : world.actors) {
                someone |= a.column == c % world.w && a.pieces > 0;
            }
            if (world.cells.get(c).hole && !someone) {
                set |= 1 << c % world.w;
            }
        }
        return set;
    }

    private static int sew(List<Integer> patches, int next, int[] loads) {
        if (next == patches.size()) {
            return Arrays.stream(loads).max().getAsInt();
        }
        int best = Integer.MAX_VALUE;
        for (int t = 0; t < loads.length; t++) {
            loads[t] += patches.get(next);
            best = Math.min(best, sew(patches, next + 1, loads));
            loads[t] -= patches.get(next);
        }
        return best;
    }

    int sewing(int k) {
        if (k < 1 || k > 3) {
            return Due.OUTSIDE;
        }
        List<Integer> patches = new ArrayList<>();
        for (Cell c : world.cells) {
            if (c.hole) {
                patches.add(world.cloths[c.cloth][2]);
            }
        }
        return patches.size() > 8 ? Due.NOT : sew(patches, 0, new int[k]);
    }

    int least(int k, int t) {
        if (k < 0 || k > 4) {
            return Due.UNKNOWN;
        }
        if (t < 0 || t > 99) {
            return Due.OUTSIDE;
        }
        World trial = world.copy();
        int put = 0;
        for (Cell c : trial.cells) {
            if (trial.weight() / 50 >= t) {
                return put;
            }
            if (c.hole) {
                c.hole = false;
                c.cloth = k;
                put++;
            }
        }
        return trial.weight() / 50 >= t ? put : -1;
    }

    int moths() {
        int most = 1;
        for (Cell c : world.cells) {
            most = c.hole ? most : Math.max(most, world.cloths[c.cloth][1]);
        }
        int set = 0;
        for (int c = 0; c < world.cells.size(); c++) {
            Cell cell = world.cells.get(c);
            set += !cell.hole && world.cloths[cell.cloth][1] == most ? 1 << c : 0;
        }
        return set;
    }

    int thread(int n, int q) {
        if (n < 0 || n > 60 || q < 0 || q > 100) {
            return Due.OUTSIDE;
        }
        return n == 0 ? 1000000000 : (int) ((long) thread(n - 1, q) * (100 - q) / 100);
    }

    // ---- what is seen

    int see(int a, boolean shown) {
        if (noActor(a)) {
            return Due.UNKNOWN;
        }
        if (seen.size() == 6) {
            return Due.FULL;
        }
        seen.add(new int[] {a, shown ? 1 : 0});
        return seen.size();
    }

    private boolean shownByLone(int c, int a) {
        World trial = world.copy();
        for (Cell cell : trial.cells) {
            cell.hole = false;
        }
        trial.cells.get(c).hole = true;
        return trial.shown(trial.actors.get(a));
    }

    int wasCut() {
        int set = 0;
        for (int c = 0; c < world.cells.size(); c++) {
            boolean fits = true;
            for (int[] s : seen) {
                fits &= shownByLone(c, s[0]) == (s[1] == 1);
            }
            set += fits ? 1 << c : 0;
        }
        return set;
    }

    int watch() {
        int cuts = wasCut();
        int best = -1;
        int least = Integer.MAX_VALUE;
        for (int a = 0; a < world.actors.size(); a++) {
            int yes = 0;
            int no = 0;
            for (int c = 0; c < world.cells.size(); c++) {
                if ((cuts >> c) % 2 == 1) {
                    if (shownByLone(c, a)) {
                        yes++;
                    } else {
                        no++;
                    }
                }
            }
            if (yes > 0 && no > 0 && Math.max(yes, no) < least) {
                least = Math.max(yes, no);
                best = a;
            }
        }
        return best;
    }

    int write(int a, int pieces) {
        if (noActor(a)) {
            return Due.UNKNOWN;
        }
        if (pieces < 0 || pieces > 9) {
            return Due.OUTSIDE;
        }
        if (book.size() == 15) {
            return Due.FULL;
        }
        book.add(new int[] {a, pieces});
        return book.size();
    }

    int tear() {
        int had = seen.size() + book.size();
        seen.clear();
        book.clear();
        return had;
    }

    int judge() {
        for (int i = 0; i < book.size(); i++) {
            if (world.actors.get(book.get(i)[0]).pieces != book.get(i)[1]) {
                return i;
            }
        }
        return -1;
    }

    // ---- draws, images

    int seed(int v) {
        if (v < 0) {
            return Due.OUTSIDE;
        }
        int was = (int) seed;
        seed = v;
        return was;
    }

    int keep(int i) {
        if (i < 0 || i > 1) {
            return Due.UNKNOWN;
        }
        images[i] = world.copy();
        imageSeeds[i] = seed;
        past.clear();
        return 1;
    }

    int goBack(int i) {
        if (i < 0 || i > 1) {
            return Due.UNKNOWN;
        }
        if (images[i] == null) {
            return Due.NOT;
        }
        world = images[i].copy();
        seed = imageSeeds[i];
        past.clear();
        return 1;
    }
}
