import java.util.ArrayList;
import java.util.Arrays;
import java.util.List;

/**
 * The document once more, in its slowest and plainest form: every answer is worked out anew from what was said,
 * every choice by trying all that there are. The random runs hold the program against it.
 */
final class PlainModel {
    static final int NONE = -6, UNKNOWN = -1, OUTSIDE = -2, STATE = -3, FULL = -4, NO = -5;

    final List<int[]> frames = new ArrayList<>();
    final List<Boolean> keys = new ArrayList<>();
    int bits = 30, scene = 60, start = 2, rate = 3, free = 5, within = 30, fan = 2;
    int pieces = 8, doors = 255;
    final int[][] pieceBits = new int[8][];
    final int[] line = new int[60];
    String text = "", rule = "0";
    final int[] room = {10, 10, 10, 10}, far = {10, 10, 10, 10}, weight = {5, 5, 5, 5, 5, 5};
    final int[][] asks = new int[4][6];
    final List<int[]> rights = new ArrayList<>();
    final int[] land = new int[8], mark = new int[8];
    final boolean[][][] seen = new boolean[8][6][60];
    final int[][] times = new int[8][6];
    final int[][] group = new int[4][6];
    final int[] on = {-1, 0, 0, 1, 1, 2, 2, 3, 3, 4}, delay = {0, 10, 10, 10, 10, 10, 10, 10, 10, 10};
    final boolean[] stands = new boolean[10];

    PlainModel() {
        for (int i = 0; i < 8; i++) pieceBits[i] = new int[] {20, 40, 80};
        Arrays.fill(line, 40);
        Arrays.fill(stands, true);
    }

    static boolean out(int v, int a, int b) {
        return v < a || v > b;
    }

    // ---- 1

    int frame() {
        if (frames.size() == 10) return FULL;
        frames.add(new int[16]);
        keys.add(frames.size() == 1);
        return frames.size() - 1;
    }

    int dot(int f, int d, int v) {
        if (out(f, 0, frames.size() - 1)) return UNKNOWN;
        if (out(d, 0, 15) || out(v, 0, 15)) return OUTSIDE;
        int was = frames.get(f)[d];
        frames.get(f)[d] = v;
        return was;
    }

    int key(int f, boolean is) {
        if (out(f, 0, frames.size() - 1)) return UNKNOWN;
        if (f == 0) return NO;
        return keys.set(f, is) ? 1 : 0;
    }

    int set(int which, int v) {
        int was;
        switch (which) {
            case 0: if (out(v, 0, 80)) return OUTSIDE; was = bits; bits = v; return was;
            case 1: if (out(v, 0, 240)) return OUTSIDE; was = scene; scene = v; return was;
            case 2: if (out(v, 1, 8)) return OUTSIDE; was = start; start = v; return was;
            case 3: if (out(v, 0, 100)) return OUTSIDE; was = rate; rate = v; return was;
            case 4: if (out(v, 0, 60)) return OUTSIDE; was = free; free = v; return was;
            case 5: if (out(v, 0, 1000)) return OUTSIDE; was = within; within = v; return was;
            case 6: if (out(v, 1, 9)) return OUTSIDE; was = fan; fan = v; return was;
            default: return OUTSIDE;
        }
    }

    static int blockOf(int dot) {
        int row = dot / 4, column = dot % 4;
        return (row < 2 ? 0 : 2) + (column < 2 ? 0 : 1);
    }

    static int bitsOf(int way) {
        return way == 4 ? 1 : way < 9 ? 6 : way == 9 ? 5 : 20;
    }

    static int[] open(int[] now, int[] ahead, int[] ways) {
        int[] opened = new int[16];
        for (int d = 0; d < 16; d++) {
            int b = blockOf(d), way = ways[b];
            if (way == 10) {
                opened[d] = now[d];
            } else if (way == 9) {
                int all = 0;
                for (int e = 0; e < 16; e++) if (blockOf(e) == b) all += now[e];
                opened[d] = all / 4;
            } else {
                int row = Math.min(3, Math.max(0, d / 4 + way / 3 - 1));
                int column = Math.min(3, Math.max(0, d % 4 + way % 3 - 1));
                opened[d] = ahead[4 * row + column];
            }
        }
        return opened;
    }

    static int loss(int[] now, int[] opened, int block) {
        int loss = 0;
        for (int d = 0; d < 16; d++) if (blockOf(d) == block) loss += (now[d] - opened[d]) * (now[d] - opened[d]);
        return loss;
    }

    /** 4 WAYS, bits, LOSS, then 16 DOTS AS OPENED. */
    int[] cut(int f) {
        int[] ahead = null;
        int[] best = null;
        for (int at = 0; at <= f; at++) {
            int[] now = frames.get(at);
            int least = keys.get(at) ? 9 : 0;
            int[][] blockLoss = new int[4][11];
            for (int w = least; w < 11; w++) {
                int[] all = open(now, ahead, new int[] {w, w, w, w});
                for (int b = 0; b < 4; b++) blockLoss[b][w] = loss(now, all, b);
            }
            best = null;
            int[] fewest = null;
            for (int w0 = least; w0 < 11; w0++)
                for (int w1 = least; w1 < 11; w1++)
                    for (int w2 = least; w2 < 11; w2++)
                        for (int w3 = least; w3 < 11; w3++) {
                            int n = bitsOf(w0) + bitsOf(w1) + bitsOf(w2) + bitsOf(w3);
                            int l = blockLoss[0][w0] + blockLoss[1][w1] + blockLoss[2][w2] + blockLoss[3][w3];
                            if (n <= bits && (best == null || l < best[5] || l == best[5] && n < best[4]))
                                best = new int[] {w0, w1, w2, w3, n, l};
                            if (fewest == null || n < fewest[4] || n == fewest[4] && l < fewest[5])
                                fewest = new int[] {w0, w1, w2, w3, n, l};
                        }
            if (best == null) best = fewest;
            ahead = open(now, ahead, best);
        }
        int[] whole = Arrays.copyOf(best, 22);
        System.arraycopy(ahead, 0, whole, 6, 16);
        return whole;
    }

    int way(int f, int b) {
        if (out(f, 0, frames.size() - 1) || out(b, 0, 3)) return UNKNOWN;
        return cut(f)[b];
    }

    int opened(int f, int d) {
        if (out(f, 0, frames.size() - 1)) return UNKNOWN;
        if (out(d, 0, 15)) return OUTSIDE;
        return cut(f)[6 + d];
    }

    int unlike(int f) {
        int all = 0;
        for (int d = 0; f > 0 && d < 16; d++) all += Math.abs(frames.get(f)[d] - frames.get(f - 1)[d]);
        return all;
    }

    int of(int f, int what) {
        if (out(f, 0, frames.size() - 1)) return UNKNOWN;
        if (out(what, 0, 4)) return OUTSIDE;
        if (what < 2) return cut(f)[4 + what];
        if (what == 2) return unlike(f);
        if (f == 0) return 0;
        return what == 3 ? (unlike(f) >= scene ? 1 : 0) : (unlike(f) == 0 ? 1 : 0);
    }

    // ---- 2

    int pieces(int n) {
        if (out(n, 1, 8)) return OUTSIDE;
        int was = pieces;
        pieces = n;
        return was;
    }

    int bits(int p, int s, int v) {
        if (out(p, 0, 7)) return UNKNOWN;
        if (out(s, 0, 2) || out(v, 1, 1000)) return OUTSIDE;
        int was = pieceBits[p][s];
        pieceBits[p][s] = v;
        return was;
    }

    int doors(int b) {
        if (out(b, 0, 255)) return OUTSIDE;
        int was = doors;
        doors = b;
        return was;
    }

    int line(int from, int to, int v) {
        if (out(from, 0, 59) || out(to, 0, 59) || from > to || out(v, 0, 1000)) return OUTSIDE;
        for (int t = from; t <= to; t++) line[t] = v;
        return 1;
    }

    int say(int sign) {
        if (out(sign, 33, 126)) return OUTSIDE;
        if (text.length() == 40) return FULL;
        text += (char) sign;
        return text.length();
    }

    int wipe() {
        int was = text.length();
        text = "";
        return was;
    }

    static final String RULE = "([blsk][<>][0-9]{1,3}:[0-2];)*[0-2]";

    /** Whether some text that is a rule begins with this one: by the ways in which a begun text can end. */
    static boolean goesOn(String begun) {
        for (String end : new String[] {"", "0", "<0:0;0", "0:0;0", ":0;0", "0;0", ";0"})
            if ((begun + end).matches(RULE)) return true;
        return false;
    }

    int fault() {
        if (text.matches(RULE)) return NONE;
        for (int i = 0; i < text.length(); i++) if (!goesOn(text.substring(0, i + 1))) return i;
        return text.length();
    }

    int rule() {
        if (fault() != NONE) return NO;
        rule = text;
        text = "";
        return 1;
    }

    int pick(int b, int l, int s, int k) {
        String[] parts = rule.split(";");
        for (int i = 0; i + 1 < parts.length; i++) {
            String p = parts[i];
            int colon = p.indexOf(':');
            int number = Integer.parseInt(p.substring(2, colon));
            int fact = p.charAt(0) == 'b' ? b : p.charAt(0) == 'l' ? l : p.charAt(0) == 's' ? s : k;
            if (p.charAt(1) == '<' ? fact < number : fact > number) return p.charAt(colon + 1) - '0';
        }
        return parts[parts.length - 1].charAt(0) - '0';
    }

    /** The SHOW bit by bit: seen, STILL seconds, sum, second of the film's last PIECE, then 8 SIZES. row: the SIZES, or null by THE RULE. */
    int[] play(int[] row) {
        int[] told = {0, 0, 0, NONE, NONE, NONE, NONE, NONE, NONE, NONE, NONE, NONE};
        int whole = 0, got = 0;
        for (int t = 0; t < 60 && told[0] < pieces; t++) {
            for (int bit = 0; bit < line[t] && whole < pieces; bit++) {
                if (got == 0) {
                    int now = whole == 0 ? 0 : told[4 + whole - 1];
                    boolean door = whole == 0 || (doors & 1 << whole) != 0;
                    int size = row != null ? row[whole]
                        : door ? pick(whole - told[0], t == 0 ? 0 : line[t - 1], now, whole) : now;
                    told[4 + whole] = size;
                }
                got++;
                if (got == pieceBits[whole][told[4 + whole]]) {
                    got = 0;
                    whole++;
                }
            }
            if (whole >= start || whole == pieces) {
                if (whole > told[0]) {
                    told[2] += told[4 + told[0]];
                    told[0]++;
                    if (told[0] == pieces) told[3] = t;
                } else {
                    told[1]++;
                }
            }
        }
        return told;
    }

    int[] bestShow() {
        int[] best = null;
        int all = 1;
        for (int i = 0; i < pieces; i++) all *= 3;
        for (int n = 0; n < all; n++) {
            int[] row = new int[pieces];
            int left = n;
            for (int i = pieces - 1; i >= 0; i--) {
                row[i] = left % 3;
                left /= 3;
            }
            boolean allowed = true;
            for (int i = 1; i < pieces; i++) if ((doors & 1 << i) == 0 && row[i] != row[i - 1]) allowed = false;
            if (!allowed) continue;
            int[] told = play(row);
            boolean better = best == null || told[0] > best[0] || told[0] == best[0]
                && (told[1] < best[1] || told[1] == best[1] && told[2] > best[2]);
            if (better) best = told;
        }
        return best;
    }

    static int part(int[] told, int what) {
        return what < 4 ? told[what] : told[what - 6];
    }

    int show(int what) {
        if (out(what, 0, 3) && out(what, 10, 17)) return OUTSIDE;
        return part(play(null), what);
    }

    int best(int what) {
        if (out(what, 0, 3) && out(what, 10, 17)) return OUTSIDE;
        return part(bestShow(), what);
    }

    // ---- 3

    int town(int t, int what, int v) {
        if (out(t, 0, 3)) return UNKNOWN;
        if (out(what, 0, 1) || out(v, 0, 100)) return OUTSIDE;
        int[] row = what == 0 ? room : far;
        int was = row[t];
        row[t] = v;
        return was;
    }

    int weight(int f, int v) {
        if (out(f, 0, 5)) return UNKNOWN;
        if (out(v, 1, 50)) return OUTSIDE;
        int was = weight[f];
        weight[f] = v;
        return was;
    }

    int ask(int t, int f, int n) {
        if (out(t, 0, 3) || out(f, 0, 5)) return UNKNOWN;
        if (out(n, 0, 1000)) return OUTSIDE;
        int was = asks[t][f];
        asks[t][f] = n;
        return was;
    }

    int kept(int t, int what) {
        if (out(t, 0, 3)) return UNKNOWN;
        if (out(what, 0, 1)) return OUTSIDE;
        int[] best = null;
        for (int films = 63; films >= 0; films--) {
            int heavy = 0, cost = 0;
            for (int f = 0; f < 6; f++) {
                if ((films & 1 << f) != 0) heavy += weight[f];
                else cost += asks[t][f] * far[t];
            }
            if (heavy > room[t]) continue;
            if (best == null || cost < best[1] || cost == best[1] && heavy <= best[2]) best = new int[] {films, cost, heavy};
        }
        return best[what];
    }

    // ---- 4

    int right(int f, int l, int from, int to, int n) {
        if (out(f, 0, 5) || out(l, 0, 3)) return UNKNOWN;
        if (out(from, 0, 999) || out(to, 0, 999) || from > to || out(n, 1, 20)) return OUTSIDE;
        if (rights.size() == 12) return FULL;
        rights.add(new int[] {f, l, from, to, n});
        return rights.size() - 1;
    }

    int land(int s, int l) {
        if (out(s, 0, 7) || out(l, 0, 3)) return UNKNOWN;
        int was = land[s];
        land[s] = l;
        return was;
    }

    int may(int s, int f, int h) {
        if (out(s, 0, 7) || out(f, 0, 5)) return UNKNOWN;
        if (out(h, 0, 999)) return OUTSIDE;
        for (int[] r : rights)
            if (r[0] == f && r[1] == land[s] && r[2] <= h && h <= r[3] && times[s][f] < r[4]) return 1;
        return 0;
    }

    int see(int s, int f, int h, int from, int to) {
        if (out(s, 0, 7) || out(f, 0, 5)) return UNKNOWN;
        if (out(h, 0, 999) || out(from, 0, 59) || out(to, 0, 59) || from > to) return OUTSIDE;
        if (may(s, f, h) == 0) return NO;
        int fresh = 0;
        for (int t = from; t <= to; t++) {
            if (!seen[s][f][t]) fresh++;
            seen[s][f][t] = true;
        }
        times[s][f]++;
        return fresh;
    }

    int seconds(int s, int f) {
        int n = 0;
        for (boolean b : seen[s][f]) if (b) n++;
        return n;
    }

    int seen(int s, int f, int what) {
        if (out(s, 0, 7) || out(f, 0, 5)) return UNKNOWN;
        if (out(what, 0, 1)) return OUTSIDE;
        return what == 0 ? seconds(s, f) : times[s][f];
    }

    int owed(int f) {
        if (out(f, 0, 5)) return UNKNOWN;
        int all = 0;
        for (int s = 0; s < 8; s++) for (int n = 0; n < seconds(s, f); n++) if (n >= free) all += rate;
        return all;
    }

    // ---- 5

    int mark(int s, int b) {
        if (out(s, 0, 7)) return UNKNOWN;
        if (out(b, 0, 255)) return OUTSIDE;
        int was = mark[s];
        mark[s] = b;
        return was;
    }

    boolean so(int s, int is, int place) {
        return (mark[s] >> place & 1) == (is >> place & 1);
    }

    int blame(int known, int is, int what) {
        if (out(known, 0, 255) || out(is, 0, 255) || out(what, 0, 3)) return OUTSIDE;
        int blamed = 0, pairs = 0, first = NONE, lower = 1;
        for (int s = 0; s < 8; s++) {
            boolean all = true;
            for (int i = 0; i < 8; i++) if ((known >> i & 1) == 1 && !so(s, is, i)) all = false;
            if (all) blamed += 1 << s;
        }
        for (int a = 0; a < 8; a++)
            for (int b = a + 1; b < 8; b++) {
                boolean pair = (blamed >> a & 1) == 0 && (blamed >> b & 1) == 0;
                for (int i = 0; i < 8; i++) if ((known >> i & 1) == 1 && !so(a, is, i) && !so(b, is, i)) pair = false;
                if (pair) {
                    pairs++;
                    if (first == NONE) first = 10 * a + b;
                }
            }
        for (int i = 0; i < 8; i++) if ((known >> i & 1) == 1) lower *= 2;
        return what == 0 ? blamed : what == 1 ? pairs : what == 2 ? first : lower;
    }

    // ---- 6

    int put(int g, int i, int v) {
        if (out(g, 0, 3)) return UNKNOWN;
        if (out(i, 0, 5) || out(v, 0, 65535)) return OUTSIDE;
        int was = group[g][i];
        group[g][i] = v;
        return was;
    }

    int sum(int g, int which) {
        if (out(g, 0, 3)) return UNKNOWN;
        if (out(which, 0, 1)) return OUTSIDE;
        int all = 0;
        for (int i = 0; i < 6; i++) all += which == 0 ? group[g][i] : group[g][i] * (i + 1);
        return all;
    }

    /** By the SUMS and what is not lost alone. */
    int restore(int g, int lost, int i) {
        if (out(g, 0, 3)) return UNKNOWN;
        if (out(lost, 0, 255) || out(i, 0, 5)) return OUTSIDE;
        if ((lost >> i & 1) == 0) return NO;
        int other = -1, many = 0, plain = sum(g, 0), placed = sum(g, 1);
        for (int n = 0; n < 6; n++) {
            if ((lost >> n & 1) == 1) {
                many++;
                if (n != i) other = n;
            } else {
                plain -= group[g][n];
                placed -= group[g][n] * (n + 1);
            }
        }
        boolean hasPlain = (lost & 64) == 0, hasPlaced = (lost & 128) == 0;
        if (many == 1 && hasPlain) return plain;
        if (many == 1 && hasPlaced) return placed / (i + 1);
        if (many == 2 && hasPlain && hasPlaced) return (placed - plain * (other + 1)) / (i - other);
        return NONE;
    }

    // ---- 7

    int hanging(int n, int but) {
        int all = 0;
        for (int i = 1; i < 10; i++) if (stands[i] && on[i] == n && i != but) all++;
        return all;
    }

    int hang(int n, int o, int d) {
        if (out(n, 0, 9) || out(o, 0, 9)) return UNKNOWN;
        if (out(d, 1, 100)) return OUTSIDE;
        if (!stands[n] || !stands[o]) return STATE;
        if (o >= n) return NO;
        if (hanging(o, n) >= fan) return FULL;
        int was = on[n];
        on[n] = o;
        delay[n] = d;
        return was;
    }

    int behind(int n) {
        if (out(n, 0, 9)) return UNKNOWN;
        if (!stands[n]) return STATE;
        return n == 0 ? 0 : delay[n] + behind(on[n]);
    }

    boolean below(int n, int top) {
        return n > 0 && (on[n] == top || below(on[n], top));
    }

    int fall(int n) {
        if (out(n, 0, 9)) return UNKNOWN;
        if (!stands[n]) return STATE;
        if (n == 0) return NO;
        stands[n] = false;
        int moved = 0;
        for (int c = 1; c < 10; c++) {
            if (!stands[c] || on[c] != n) continue;
            int best = -1;
            for (int o = 0; o < c; o++) {
                if (!stands[o] || below(o, n) || hanging(o, -1) >= fan) continue;
                if (best < 0 || behind(o) < behind(best)) best = o;
            }
            on[c] = Math.max(best, 0);
            moved++;
        }
        return moved;
    }

    int tree(int what) {
        if (out(what, 0, 1) && out(what, 10, 19)) return OUTSIDE;
        if (what >= 10) return what == 10 || !stands[what - 10] ? NONE : on[what - 10];
        int all = 0;
        for (int i = 0; i < 10; i++) if (stands[i] && (what == 0 || behind(i) <= within)) all += 1 << i;
        return all;
    }

    int told(int what) {
        int bits = 0;
        switch (what) {
            case 0: return frames.size();
            case 1: for (int f = 0; f < frames.size(); f++) bits += of(f, 3) << f; return bits;
            case 2: for (int f = 0; f < frames.size(); f++) bits += of(f, 4) << f; return bits;
            case 3: return text.length();
            case 4: return rights.size();
            case 5: return pieces;
            case 6: return doors;
            default: return OUTSIDE;
        }
    }
}
