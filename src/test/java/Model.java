import java.math.BigInteger;
import java.util.ArrayDeque;
import java.util.ArrayList;
import java.util.Arrays;
import java.util.Deque;
import java.util.List;
import java.util.Map;
import java.util.TreeMap;
import java.util.regex.Matcher;
import java.util.regex.Pattern;

/** A second writing of the document, by trying all there is wherever that ends; shares no line with the program. */
final class Model {
    static final int BAD = -1, NO = -2, FULL = -3, NONE = -4;
    private static final Pattern ITEM = Pattern.compile("([rpl])((?:\\d{1,2},)*\\d{1,2});");

    private static final class Vane {
        int kind, x, y, way;
    }

    private static final class State {
        int w = 6, h = 6, hours = 0;
        List<Vane> people = new ArrayList<>();
        int[][] lean = new int[6][6];

        State copy() {
            State other = new State();
            other.w = w;
            other.h = h;
            other.hours = hours;
            for (Vane v : people) {
                Vane twin = new Vane();
                twin.kind = v.kind;
                twin.x = v.x;
                twin.y = v.y;
                twin.way = v.way;
                other.people.add(twin);
            }
            for (int a = 0; a < 6; a++) {
                other.lean[a] = lean[a].clone();
            }
            return other;
        }

        int at(int x, int y) {
            for (int p = 0; p < people.size(); p++) {
                if (people.get(p).x == x && people.get(p).y == y) {
                    return p;
                }
            }
            return NONE;
        }

        int[] feels(int p, int absent) {
            int east = 0, south = 0;
            Vane me = people.get(p);
            for (int q = 0; q < people.size(); q++) {
                Vane it = people.get(q);
                int far = Math.abs(me.x - it.x) + Math.abs(me.y - it.y);
                if (q == p || (absent & 1 << q) != 0 || far > 11) {
                    continue;
                }
                east += lean[p][q] * (12 - far) * (it.x - me.x);
                south += lean[p][q] * (12 - far) * (it.y - me.y);
            }
            return new int[] {east, south};
        }

        int draft(int p) {
            int[] felt = feels(p, 0);
            return way(felt[0], felt[1]);
        }

        boolean go(int p, int side) {
            Vane me = people.get(p);
            int x = me.x + (side == 1 ? 1 : side == 3 ? -1 : 0);
            int y = me.y + (side == 2 ? 1 : side == 0 ? -1 : 0);
            if (x < 0 || y < 0 || x >= w || y >= h || at(x, y) != NONE) {
                return false;
            }
            me.x = x;
            me.y = y;
            return true;
        }

        int hour() {
            int[] next = new int[people.size()];
            for (int p = 0; p < next.length; p++) {
                Vane v = people.get(p);
                int d = draft(p);
                next[p] = v.way;
                if (v.kind == 2) {
                    next[p] = v.way == 7 ? 0 : v.way + 1;
                } else if (d != NONE && v.kind == 0) {
                    next[p] = d;
                } else if (d != NONE && v.kind == 3) {
                    next[p] = d < 4 ? d + 4 : d - 4;
                } else if (d != NONE && v.way != d) {
                    int right = 0, left = 0;
                    while ((v.way + right & 7) != d) {
                        right++;
                    }
                    while ((v.way - left & 7) != d) {
                        left++;
                    }
                    next[p] = (left < right ? v.way - 1 : v.way + 1) & 7;
                }
            }
            int otherwise = 0;
            for (int p = 0; p < next.length; p++) {
                otherwise += people.get(p).way == next[p] ? 0 : 1;
                people.get(p).way = next[p];
            }
            hours++;
            return otherwise;
        }
    }

    /** By which of the angles of 22.5 turned ways it falls: tables, not comparisons of the program's form. */
    static int way(int east, int south) {
        if (east == 0 && south == 0) {
            return NONE;
        }
        double slope = Math.max(Math.abs(east), Math.abs(south)) / (double) Math.min(Math.abs(east), Math.abs(south));
        int signEast = Integer.signum(east), signSouth = Integer.signum(south);
        if (slope > 2.0) {
            if (Math.abs(east) > Math.abs(south)) {
                signSouth = 0;
            } else {
                signEast = 0;
            }
        }
        int[][] table = {{7, 0, 1}, {6, NONE, 2}, {5, 4, 3}};
        return table[signSouth + 1][signEast + 1];
    }

    private State now;
    private String text = "";
    private Deque<State> past = new ArrayDeque<>();
    private List<State> kept = new ArrayList<>();
    private List<int[]> seen = new ArrayList<>();
    private State parsed;

    Model() {
        text = "r7,6;p0,0,0;p1,6,5;p2,3,2;p3,5,1;p0,1,4;p0,4,4;l0,1,0,5;l0,2,1,2;l1,0,0,9;l1,4,0,3;l2,3,0,7;"
                + "l3,2,0,4;l3,5,1,6;l4,5,0,8;l5,4,0,2;l5,0,0,9;";
        lay();
        text = "";
    }

    private boolean isPerson(int p) {
        return p >= 0 && p < now.people.size();
    }

    private static boolean in(int number, int low, int high) {
        return number >= low && number <= high;
    }

    int write(int letter) {
        if (!in(letter, 32, 126)) {
            return BAD;
        }
        if (text.length() == 200) {
            return FULL;
        }
        text += (char) letter;
        return text.length();
    }

    int wipe() {
        int was = text.length();
        text = "";
        return was;
    }

    int fault() {
        parsed = new State();
        Matcher matcher = ITEM.matcher(text);
        int at = 0;
        String letters = "";
        while (at < text.length()) {
            matcher.region(at, text.length());
            if (!matcher.lookingAt()) {
                return at;
            }
            int[] n = Arrays.stream(matcher.group(2).split(",")).mapToInt(Integer::parseInt).toArray();
            if (!item(matcher.group(1), n, letters)) {
                return at;
            }
            letters += matcher.group(1);
            at = matcher.end();
        }
        return NONE;
    }

    private boolean item(String letter, int[] n, String letters) {
        int many = parsed.people.size();
        if (letter.equals("r")) {
            if (n.length != 2 || !in(n[0], 1, 9) || !in(n[1], 1, 9) || letters.contains("p") || letters.contains("l")) {
                return false;
            }
            parsed.w = n[0];
            parsed.h = n[1];
        } else if (letter.equals("p")) {
            if (n.length != 3 || n[0] > 3 || n[1] >= parsed.w || n[2] >= parsed.h || parsed.at(n[1], n[2]) != NONE || many == 6) {
                return false;
            }
            Vane vane = new Vane();
            vane.kind = n[0];
            vane.x = n[1];
            vane.y = n[2];
            parsed.people.add(vane);
        } else {
            if (n.length != 4 || n[0] == n[1] || n[0] >= many || n[1] >= many || n[2] > 1 || n[3] > 20) {
                return false;
            }
            parsed.lean[n[0]][n[1]] = n[3] * (1 - 2 * n[2]);
        }
        return true;
    }

    int lay() {
        if (fault() != NONE || parsed.people.isEmpty()) {
            return NO;
        }
        now = parsed.copy();
        past.clear();
        kept.clear();
        seen.clear();
        return now.people.size();
    }

    int person(int p, int what) {
        if (!isPerson(p) || !in(what, 0, 6)) {
            return BAD;
        }
        Vane v = now.people.get(p);
        int[] felt = now.feels(p, 0);
        return new int[] {v.kind, v.x, v.y, v.way, now.draft(p), felt[0] + 10000, felt[1] + 10000}[what];
    }

    int leaning(int a, int b) {
        return !isPerson(a) || !isPerson(b) || a == b ? BAD : now.lean[a][b] + 20;
    }

    int place(int x, int y) {
        return in(x, 0, now.w - 1) && in(y, 0, now.h - 1) ? now.at(x, y) : BAD;
    }

    private void remember(State before) {
        past.addLast(before);
        if (past.size() > 8) {
            past.removeFirst();
        }
    }

    int pass(int n) {
        if (!in(n, 1, 24)) {
            return BAD;
        }
        remember(now.copy());
        for (int i = 0; i < n; i++) {
            now.hour();
        }
        return now.hours;
    }

    int walk(int p, int side) {
        if (!isPerson(p) || !in(side, 0, 3)) {
            return BAD;
        }
        State before = now.copy();
        if (!now.go(p, side)) {
            return NO;
        }
        remember(before);
        return Integer.parseInt("" + now.people.get(p).x + now.people.get(p).y);
    }

    int lean(int a, int b, int l) {
        if (leaning(a, b) == BAD || !in(l, -20, 20)) {
            return BAD;
        }
        int was = leaning(a, b);
        remember(now.copy());
        now.lean[a][b] = l;
        return was;
    }

    int undo() {
        if (past.isEmpty()) {
            return NO;
        }
        now = past.removeLast();
        return past.size();
    }

    int toward(int p) {
        if (!isPerson(p)) {
            return BAD;
        }
        int bits = 0;
        Vane me = now.people.get(p);
        for (int q = 0; q < now.people.size(); q++) {
            Vane it = now.people.get(q);
            bits += way(it.x - me.x, it.y - me.y) == me.way ? 1 << q : 0;
        }
        return bits;
    }

    int looked(int what) {
        if (!in(what, 0, 1)) {
            return BAD;
        }
        int[] by = new int[now.people.size()];
        for (int p = 0; p < by.length; p++) {
            for (int q = 0; q < by.length; q++) {
                by[q] += toward(p) >> q & 1;
            }
        }
        int most = Arrays.stream(by).max().getAsInt();
        int which = 0;
        while (by[which] != most) {
            which++;
        }
        return what == 0 ? which : most;
    }

    int behind(int n, int p) {
        if (!in(n, 0, 40) || !isPerson(p)) {
            return BAD;
        }
        State then = now.copy();
        for (int i = 0; i < n; i++) {
            then.hour();
        }
        return then.people.get(p).way;
    }

    int settled() {
        for (int n = 0; n <= 20; n++) {
            boolean still = true;
            for (int p = 0; p < now.people.size(); p++) {
                still &= behind(n, p) == behind(n + 1, p);
            }
            if (still) {
                return n;
            }
        }
        return NONE;
    }

    /** Layer by layer, at each place the lowest of all rows that end there. */
    private String row(int p, int w) {
        TreeMap<String, State> layer = new TreeMap<>();
        TreeMap<Integer, String> been = new TreeMap<>();
        layer.put("", now.copy());
        while (!layer.isEmpty()) {
            for (Map.Entry<String, State> entry : layer.entrySet()) {
                if (entry.getValue().draft(p) == w) {
                    return entry.getKey();
                }
                Vane v = entry.getValue().people.get(p);
                been.put(v.x * 100 + v.y, entry.getKey());
            }
            TreeMap<String, State> all = new TreeMap<>();
            for (Map.Entry<String, State> entry : layer.entrySet()) {
                for (int side = 0; side < 4; side++) {
                    State then = entry.getValue().copy();
                    if (then.go(p, side)) {
                        all.put(entry.getKey() + side, then);
                    }
                }
            }
            layer = new TreeMap<>();
            TreeMap<Integer, String> reached = new TreeMap<>();
            for (Map.Entry<String, State> entry : all.entrySet()) {
                Vane v = entry.getValue().people.get(p);
                int key = v.x * 100 + v.y;
                if (!been.containsKey(key) && reached.putIfAbsent(key, entry.getKey()) == null) {
                    layer.put(entry.getKey(), entry.getValue());
                }
            }
        }
        return null;
    }

    int steps(int p, int w, int k) {
        if (!isPerson(p) || !in(w, 0, 7) || k < -1) {
            return BAD;
        }
        String row = row(p, w);
        if (row == null) {
            return NONE;
        }
        return k == -1 ? row.length() : k < row.length() ? row.charAt(k) - '0' : NONE;
    }

    int stand(int p, int q, int w, int what) {
        if (leaning(p, q) == BAD || !in(w, 0, 7) || !in(what, 0, 1)) {
            return BAD;
        }
        List<Integer> places = new ArrayList<>();
        for (int place = 0; place < 100; place++) {
            State then = now.copy();
            Vane me = then.people.get(p);
            me.x = 99;
            if (place / 10 >= now.w || place % 10 >= now.h || then.at(place / 10, place % 10) != NONE) {
                continue;
            }
            me.x = place / 10;
            me.y = place % 10;
            if (then.draft(q) == w) {
                places.add(place);
            }
        }
        return what == 0 ? places.size() : places.isEmpty() ? NONE : places.get(0);
    }

    /** All rows of mates (as many as there are people: alone) in their order; null if none of them stands. */
    private int[] mates() {
        int many = now.people.size();
        int[] mate = new int[many];
        while (true) {
            if (stands(mate, many)) {
                return mate;
            }
            int at = many - 1;
            while (at >= 0 && mate[at] == many) {
                mate[at--] = 0;
            }
            if (at < 0) {
                return null;
            }
            mate[at]++;
        }
    }

    private boolean stands(int[] mate, int many) {
        for (int p = 0; p < many; p++) {
            int q = mate[p];
            if (q < many && (q == p || mate[q] != p || now.lean[p][q] <= 0)) {
                return false;
            }
        }
        for (int a = 0; a < many; a++) {
            for (int b = 0; b < many; b++) {
                int ofA = mate[a] == many ? 0 : now.lean[a][mate[a]];
                int ofB = mate[b] == many ? 0 : now.lean[b][mate[b]];
                if (a != b && mate[a] != b && now.lean[a][b] > ofA && now.lean[b][a] > ofB) {
                    return false;
                }
            }
        }
        return true;
    }

    int marry(int p) {
        if (p != -1 && !isPerson(p)) {
            return BAD;
        }
        int[] mate = mates();
        if (mate == null) {
            return NONE;
        }
        if (p == -1) {
            return (int) Arrays.stream(mate).filter(q -> q < mate.length).count();
        }
        return mate[p] == mate.length ? NONE : mate[p];
    }

    int see(int p, int n, int w) {
        if (!isPerson(p) || !in(n, 0, 20) || !in(w, 0, 7)) {
            return BAD;
        }
        if (seen.size() == 6) {
            return FULL;
        }
        seen.add(new int[] {p, n, w});
        return seen.size();
    }

    int forget() {
        int were = seen.size();
        seen.clear();
        return were;
    }

    int kinds(int p) {
        if (!isPerson(p)) {
            return BAD;
        }
        int bits = 0;
        int own = now.people.get(p).kind;
        for (int kind = 0; kind < 4; kind++) {
            now.people.get(p).kind = kind;
            boolean so = true;
            for (int[] sight : seen) {
                so &= sight[0] != p || behind(sight[1], p) == sight[2];
            }
            bits += so ? 1 << kind : 0;
        }
        now.people.get(p).kind = own;
        return bits;
    }

    int loves(int p, int w) {
        if (!isPerson(p) || !in(w, 0, 7)) {
            return BAD;
        }
        int bits = 0;
        for (int q = 0; q < now.people.size(); q++) {
            State then = now.copy();
            then.lean[p] = new int[6];
            then.lean[p][q] = 20;
            bits += then.draft(p) == w ? 1 << q : 0;
        }
        return bits;
    }

    /** Tells out ten to the power of the others' number of cases, one figure for each. */
    int away(int p, int w, int x, int part) {
        if (!isPerson(p) || !in(w, 0, 7) || !in(x, 0, 10) || !in(part, 0, 1)) {
            return BAD;
        }
        int many = now.people.size();
        int[] drafts = new int[1 << many];
        for (int absent = 0; absent < drafts.length; absent++) {
            int[] felt = now.feels(p, absent);
            drafts[absent] = way(felt[0], felt[1]);
        }
        int cases = (int) Math.round(Math.pow(10, many - 1));
        int above = 0;
        for (int one = 0; one < cases; one++) {
            int figures = one;
            int absent = 0;
            for (int q = 0; q < many; q++) {
                if (q != p) {
                    absent |= figures % 10 < x ? 1 << q : 0;
                    figures /= 10;
                }
            }
            above += drafts[absent] == w ? 1 : 0;
        }
        int shared = BigInteger.valueOf(above).gcd(BigInteger.valueOf(cases)).intValue();
        return (part == 0 ? above : cases) / shared;
    }

    int evening(int z, int n, int what) {
        if (!in(z, 0, 9999) || !in(n, 1, 60) || !in(what, 0, 1)) {
            return BAD;
        }
        State then = now.copy();
        int many = then.people.size();
        int often = 0;
        for (int k = 0; k < n; k++) {
            BigInteger x = BigInteger.valueOf(7919L * z + 6151L * k + 1);
            int draw = x.multiply(x).mod(BigInteger.valueOf(65521)).intValue();
            int p = (draw >> 3) % many;
            int q = (draw >> 6) % many;
            if ((draw & 7) < 4) {
                then.go(p, draw >> 6 & 3);
            } else if ((draw & 7) == 4 && p != q) {
                then.lean[p][q] = (draw >> 9) % 41 - 20;
            }
            often += then.hour();
        }
        int sum = 0;
        for (Vane v : then.people) {
            sum += v.way;
        }
        return what == 0 ? sum : often;
    }

    int keep() {
        if (kept.size() == 2) {
            return FULL;
        }
        kept.add(now.copy());
        return kept.size();
    }

    int back() {
        if (kept.isEmpty()) {
            return NO;
        }
        now = kept.remove(kept.size() - 1);
        past.clear();
        return kept.size();
    }

    int count(int what) {
        if (!in(what, 0, 9)) {
            return BAD;
        }
        int drafts = 0, leanings = 0;
        for (int p = 0; p < now.people.size(); p++) {
            drafts += now.draft(p) == NONE ? 0 : 1;
            for (int l : now.lean[p]) {
                leanings += l == 0 ? 0 : 1;
            }
        }
        return new int[] {now.w, now.h, now.people.size(), now.hours, drafts, leanings, seen.size(), past.size(), kept.size(),
            text.length()}[what];
    }
}
