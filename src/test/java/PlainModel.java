import java.math.BigInteger;
import java.util.ArrayDeque;
import java.util.ArrayList;
import java.util.Deque;
import java.util.List;
import java.util.regex.Matcher;
import java.util.regex.Pattern;

/**
 * The document once more, written for being compared with the program: slow, with the whole
 * Java library, states that are copied and never changed, nothing used twice.
 */
final class PlainModel {
    static final int BAD = -1, NO = -2, FULL = -3, NONE = -4;

    private static final class Desk {
        int kind, lean, needs, hears, group = 0, off = 0;
    }

    private static final class Text {
        final List<Desk> desks = new ArrayList<>();
        int oboe = 0, slip = 0, warmth = 1, unheard = 3;
        int fault = NONE;
    }

    private record Now(List<Integer> offs, List<Integer> hears, int oboe, int seconds) {
        Now hearing(int i, int whom) {
            List<Integer> other = new ArrayList<>(hears);
            other.set(i, whom);
            return new Now(offs, other, oboe, seconds);
        }
    }

    private record Said(int set, int sum) { }

    private record Rounded(Now now, int seconds) { }

    private static final Pattern ITEM = Pattern.compile("([dgpowh])([0-9]{1,2}(?:,[0-9]{1,2})*);");

    private String letters = "";
    private Text text;
    private Now now;
    private final Deque<Now> undone = new ArrayDeque<>();
    private final Deque<Now> kept = new ArrayDeque<>();
    private final List<Said> said = new ArrayList<>();

    PlainModel() {
        letters = "d0,4,10,9;d0,4,10,0;d1,3,5,9;d2,3,1,9;d3,2,20,1;p0,25;p3,22;g1,1;g4,2;o9,1;w1;h3;";
        lay();
        letters = "";
    }

    // ---- halls

    int write(int letter) {
        if (letter < 32 || letter > 126) return BAD;
        if (letters.length() == 200) return FULL;
        letters += (char) letter;
        return letters.length();
    }

    int wipe() {
        int were = letters.length();
        letters = "";
        return were;
    }

    int fault() {
        return read(letters).fault;
    }

    int lay() {
        Text told = read(letters);
        if (told.fault != NONE || told.desks.isEmpty()) return NO;
        for (int i = 0; i < told.desks.size(); i++) {
            int whom = told.desks.get(i).hears;
            if (whom < 8 && (whom >= told.desks.size() || whom == i)) return NO;
        }
        text = told;
        List<Integer> offs = new ArrayList<>();
        List<Integer> hears = new ArrayList<>();
        for (Desk desk : told.desks) {
            offs.add(desk.off);
            hears.add(desk.hears);
        }
        now = new Now(offs, hears, told.oboe, 0);
        undone.clear();
        kept.clear();
        said.clear();
        return told.desks.size();
    }

    private static Text read(String letters) {
        Text told = new Text();
        Matcher items = ITEM.matcher(letters);
        int at = 0;
        while (at < letters.length()) {
            items.region(at, letters.length());
            if (!items.lookingAt() || !take(told, items.group(1).charAt(0), items.group(2).split(","))) {
                told.fault = at;
                return told;
            }
            at = items.end();
        }
        return told;
    }

    private static boolean take(Text told, char letter, String[] figures) {
        int[] n = new int[figures.length];
        for (int i = 0; i < n.length; i++) n[i] = Integer.parseInt(figures[i]);
        int due = letter == 'd' ? 4 : letter == 'w' || letter == 'h' ? 1 : 2;
        if (n.length != due) return false;
        if (letter == 'd') {
            if (n[0] > 3 || n[1] > 6 || n[2] < 1 || n[2] > 60 || n[3] > 9 || told.desks.size() == 8) return false;
            Desk desk = new Desk();
            desk.kind = n[0];
            desk.lean = n[1];
            desk.needs = n[2];
            desk.hears = n[3];
            return told.desks.add(desk);
        }
        if (letter == 'g' || letter == 'p') {
            if (n[0] >= told.desks.size() || n[1] > (letter == 'g' ? 4 : 40)) return false;
            if (letter == 'g') told.desks.get(n[0]).group = n[1];
            else told.desks.get(n[0]).off = n[1] - 20;
            return true;
        }
        if (letter == 'o') {
            if (n[0] > 18 || n[1] > 3) return false;
            told.oboe = n[0] - 9;
            told.slip = n[1];
            return true;
        }
        if (letter == 'w') {
            told.warmth = n[0];
            return n[0] <= 3;
        }
        told.unheard = n[0];
        return n[0] >= 1 && n[0] <= 20;
    }

    int desk(int i, int what) {
        if (none(i) || what < 0 || what > 4) return BAD;
        Desk desk = text.desks.get(i);
        return List.of(desk.kind, desk.lean, desk.needs, now.hears.get(i), desk.group).get(what);
    }

    int off(int i) {
        if (i == 9) return 1000 + now.oboe;
        return none(i) ? BAD : 1000 + now.offs.get(i);
    }

    // ---- tuning

    int tune(int set) {
        if (set < 1 || set >= 1 << size()) return BAD;
        does();
        Rounded after = tuned(now, set, -1, -1, new int[1]);
        now = after.now;
        return after.seconds;
    }

    int minutes(int n) {
        if (n < 1 || n > 60) return BAD;
        if (now.seconds + 60 * n > 99999) return NO;
        does();
        now = passed(now, 60 * n);
        return now.seconds;
    }

    int hear(int i, int whom) {
        if (none(i) || whom == i || (none(whom) && whom != 8 && whom != 9)) return BAD;
        does();
        int did = now.hears.get(i);
        now = now.hearing(i, whom);
        return did;
    }

    int undo() {
        if (undone.isEmpty()) return NO;
        now = undone.pop();
        return undone.size();
    }

    private void does() {
        undone.push(now);
        if (undone.size() > 8) undone.removeLast();
    }

    private Rounded tuned(Now at, int set, int straight, int z, int[] drawn) {
        List<Integer> takers = new ArrayList<>();
        for (int i = 0; i < size(); i++) {
            if ((set >> i) % 2 == 1 && text.desks.get(i).kind != 2) takers.add(i);
        }
        List<Integer> offs = new ArrayList<>(at.offs);
        int slowest = 0;
        int oboe = at.oboe;
        for (int i : takers) {
            Desk desk = text.desks.get(i);
            int whom = at.hears.get(i);
            int off = 0;
            if (whom != 8) {
                off = whom == 9 ? at.oboe : at.offs.get(whom);
                if (i != straight) off += desk.lean - 3;
                off += (takers.size() - 1) / 2;
            }
            if (z >= 0) off += draw(z, drawn[0]++) - 1;
            offs.set(i, kept(off));
            slowest = Math.max(slowest, desk.needs);
            if (whom == 9) oboe = kept(at.oboe + text.slip);
        }
        return new Rounded(passed(new Now(offs, at.hears, oboe, at.seconds), slowest), slowest);
    }

    private static int draw(int z, int k) {
        BigInteger x = BigInteger.valueOf(7919L * z).add(BigInteger.valueOf(6151L * k + 1));
        return x.pow(2).mod(BigInteger.valueOf(65521)).mod(BigInteger.valueOf(3)).intValue();
    }

    private Now passed(Now at, int seconds) {
        List<Integer> offs = new ArrayList<>(at.offs);
        for (int s = at.seconds + 1; s <= at.seconds + seconds; s++) {
            for (int b = 0; s % 60 == 0 && b < text.warmth; b++) {
                for (int i = 0; i < size(); i++) {
                    int by = List.of(-1, 1, 0, -2).get(text.desks.get(i).kind);
                    offs.set(i, kept(offs.get(i) + by));
                }
            }
        }
        return new Now(offs, at.hears, at.oboe, at.seconds + seconds);
    }

    private static int kept(int off) {
        if (off > 999) return 999;
        return off < -999 ? -999 : off;
    }

    // ---- how it is

    int spread() {
        return spread(now);
    }

    int heard() {
        return heard(now.offs);
    }

    int mean(int part) {
        if (part != 0 && part != 1) return BAD;
        int sum = 1000 * size();
        for (int off : now.offs) sum += off;
        return lowest(BigInteger.valueOf(sum), BigInteger.valueOf(size()), part);
    }

    private static int lowest(BigInteger above, BigInteger below, int part) {
        BigInteger shared = above.gcd(below);
        return (part == 0 ? above : below).divide(shared).intValue();
    }

    private static int spread(Now at) {
        List<Integer> sorted = new ArrayList<>(at.offs);
        sorted.sort(null);
        return sorted.get(sorted.size() - 1) - sorted.get(0);
    }

    private int heard(List<Integer> offs) {
        int twos = 0;
        for (int i = 0; i < offs.size(); i++) {
            for (int j = 0; j < i; j++) {
                if (Math.abs(offs.get(i) - offs.get(j)) > text.unheard) twos++;
            }
        }
        return twos;
    }

    // ---- by groups

    int round(int i) {
        if (i < -2 || i >= size()) return BAD;
        Rounded after = rounded(now, -1, -1);
        if (i == -1) return spread(after.now);
        return i == -2 ? after.seconds : 1000 + after.now.offs.get(i);
    }

    private Rounded rounded(Now at, int straight, int z) {
        int[] drawn = new int[1];
        Now then = at;
        for (int k = 0; k <= 4; k++) {
            int set = 0;
            for (int i = 0; i < size(); i++) if (text.desks.get(i).group == k) set += 1 << i;
            then = tuned(then, set, straight, z, drawn).now;
        }
        return new Rounded(then, then.seconds - at.seconds);
    }

    int halves(int what) {
        if (what < 0 || what > 2) return BAD;
        List<int[]> ways = new ArrayList<>();
        for (int set = 0; set < 1 << size(); set++) {
            Now half = tuned(now, set, -1, -1, null).now;
            Now whole = tuned(half, (1 << size()) - 1 - set, -1, -1, null).now;
            ways.add(new int[] {spread(whole), whole.seconds - now.seconds, set});
        }
        ways.sort((a, b) -> a[0] != b[0] ? a[0] - b[0] : a[1] != b[1] ? a[1] - b[1] : a[2] - b[2]);
        int[] best = ways.get(0);
        return what == 0 ? best[2] : best[what - 1];
    }

    int way(int i, int what) {
        if (none(i) || (what != 0 && what != 1)) return BAD;
        List<Integer> met = new ArrayList<>();
        int lean = 100;
        int at = i;
        while (!met.contains(at)) {
            met.add(at);
            int whom = now.hears.get(at);
            if (whom != 8) lean += text.desks.get(at).lean - 3;
            if (whom > 7) return what == 0 ? met.size() : lean;
            at = whom;
        }
        return NONE;
    }

    int ear(int i, int what) {
        if (none(i) || (what != 0 && what != 1)) return BAD;
        if (text.desks.get(i).kind == 2) return NO;
        List<int[]> ears = new ArrayList<>();
        for (int whom = 0; whom < 10; whom++) {
            if (whom == i || (whom >= size() && whom != 9)) continue;
            ears.add(new int[] {whom, Math.abs(rounded(now.hearing(i, whom), -1, -1).now.offs.get(i))});
        }
        ears.sort((a, b) -> a[1] != b[1] ? a[1] - b[1] : a[0] - b[0]);
        return ears.get(0)[what];
    }

    int again() {
        for (int m = 0; m <= 99; m++) {
            if (spread(passed(now, 60 * m)) > text.unheard) return m;
        }
        return NONE;
    }

    int needles(int k, int what) {
        if (k < 0 || k > 3 || (what != 0 && what != 1)) return BAD;
        List<int[]> sets = new ArrayList<>();
        for (int set = 0; set < 1 << size(); set++) {
            Now at = now;
            int many = 0;
            boolean fixed = false;
            for (int i = 0; i < size(); i++) {
                if ((set >> i) % 2 == 0) continue;
                many++;
                fixed |= text.desks.get(i).kind == 2;
                at = at.hearing(i, 8);
            }
            if (many == k && !fixed) sets.add(new int[] {set, spread(rounded(at, -1, -1).now)});
        }
        if (sets.isEmpty()) return NONE;
        sets.sort((a, b) -> a[1] != b[1] ? a[1] - b[1] : a[0] - b[0]);
        return sets.get(0)[what];
    }

    int blame(int what) {
        if (what != 0 && what != 1) return BAD;
        List<int[]> desks = new ArrayList<>();
        for (int i = 0; i < size(); i++) desks.add(new int[] {i, spread(rounded(now, i, -1).now)});
        desks.sort((a, b) -> a[1] != b[1] ? a[1] - b[1] : a[0] - b[0]);
        return desks.get(0)[what];
    }

    int fifths(int a, int b, int what) {
        if (a < 0 || a > 9 || b < 0 || b > 9 || (what != 0 && what != 1)) return BAD;
        // Pure fifths are even apart: half way between the outermost strings is best.
        return what == 0 ? a - b + 20 : a + b;
    }

    // ---- who is high

    int together(int set, int v) {
        if (set < 1 || set >= 1 << size() || v < 0 || v > 400) return BAD;
        if (said.size() == 8) return FULL;
        said.add(new Said(set, v - 200));
        return said.size();
    }

    int forget() {
        int were = said.size();
        said.clear();
        return were;
    }

    int high(int what) {
        if (what != 0 && what != 1) return BAD;
        List<Integer> found = new ArrayList<>();
        for (int i = 0; i < size(); i++) {
            for (int slip = -9; slip <= 9; slip++) {
                List<Integer> offs = new ArrayList<>(now.offs);
                offs.set(i, offs.get(i) + slip);
                if (slip != 0 && said.stream().allMatch(s -> sum(s.set, offs) == s.sum)) found.add(20 * i + slip + 9);
            }
        }
        if (what == 0) return found.size();
        return found.isEmpty() ? NONE : found.get(0);
    }

    private static int sum(int set, List<Integer> offs) {
        int sum = 0;
        for (int i = 0; i < offs.size(); i++) if ((set >> i) % 2 == 1) sum += offs.get(i);
        return sum;
    }

    int odds(int x, int part) {
        if (x < 0 || x > 10 || (part != 0 && part != 1)) return BAD;
        BigInteger chance = chance(x, 0, new ArrayList<>(now.offs));
        // Each desk counts ten, those without pegs as well: lowest terms are the same.
        return lowest(chance, BigInteger.TEN.pow(size()), part);
    }

    private BigInteger chance(int x, int i, List<Integer> offs) {
        if (i == size()) return heard(offs) == 0 ? BigInteger.ONE : BigInteger.ZERO;
        int kind = text.desks.get(i).kind;
        if (kind == 1 || kind == 2) return BigInteger.TEN.multiply(chance(x, i + 1, offs));
        List<Integer> slipped = new ArrayList<>(offs);
        slipped.set(i, kept(offs.get(i) - 4));
        BigInteger down = BigInteger.valueOf(x).multiply(chance(x, i + 1, slipped));
        return down.add(BigInteger.valueOf(10 - x).multiply(chance(x, i + 1, offs)));
    }

    int evening(int z, int what) {
        if (z < 0 || z > 9999 || (what != 0 && what != 1)) return BAD;
        Now then = rounded(now, -1, z).now;
        return what == 0 ? spread(then) : heard(then.offs);
    }

    // ---- kept

    int keep() {
        if (kept.size() == 2) return FULL;
        kept.push(now);
        return kept.size();
    }

    int back() {
        if (kept.isEmpty()) return NO;
        now = kept.pop();
        undone.clear();
        return kept.size();
    }

    int count(int what) {
        if (what < 0 || what > 7) return BAD;
        int[] counts = {size(), now.seconds, now.seconds / 60 * text.warmth, said.size(), undone.size(),
            kept.size(), letters.length(), text.unheard};
        return counts[what];
    }

    private int size() {
        return text.desks.size();
    }

    private boolean none(int i) {
        return i < 0 || i >= size();
    }
}
