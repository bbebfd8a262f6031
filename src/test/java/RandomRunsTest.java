import java.util.Random;

/** Runs of 512 calls by lot, held call by call against PlainModel. The seeds are fixed: each run is the same again. */
public final class RandomRunsTest {
    private static final Check CHECK = new Check();
    private static final int[] ODD = {-1, Integer.MIN_VALUE, Integer.MAX_VALUE, -2, 256, 65536, 1001, 100000};
    private static final String[] RULES = {
        "0", "1", "2", "b>2:2;1", "b<1:0;l>39:2;1", "s<1:1;s>1:0;2", "k<3:2;k>5:1;0", "l<30:0;b>1:2;b>0:1;0",
        "k>0:1;k>1:2;0", "s>0:0;2", "l>999:2;l<1:1;0", "b>000:2;b<007:1;0", "k<1:2;k<2:1;k<3:0;k<4:2;k<5:1;k<6:0;2"};

    private final Random lot;
    private final FilmLines real = new FilmLines();
    private final PlainModel plain = new PlainModel();
    private final String run;

    private RandomRunsTest(int mood, int seed) {
        lot = new Random(seed * 31L + mood);
        run = "mood " + mood + " seed " + seed + " ";
    }

    public static void main(String[] args) {
        for (int seed = 0; seed < 60; seed++) {
            new RandomRunsTest(0, seed).frames();
            new RandomRunsTest(2, seed).texts();
            new RandomRunsTest(7, seed).all();
        }
        for (int seed = 0; seed < 40; seed++) {
            new RandomRunsTest(1, seed).shows();
        }
        for (int seed = 0; seed < 300; seed++) {
            new RandomRunsTest(3, seed).stores();
            new RandomRunsTest(4, seed).rights();
            new RandomRunsTest(5, seed).marksAndGroups();
            new RandomRunsTest(6, seed).trees();
        }
        CHECK.end("RandomRunsTest");
    }

    /** A number from least to most; now and then its neighbour outside, or a number far off. */
    private int any(int least, int most) {
        int kind = lot.nextInt(60);
        if (kind == 0) return least - 1;
        if (kind == 1) return most + 1;
        if (kind == 2) return ODD[lot.nextInt(ODD.length)];
        if (kind == 3) return least;
        if (kind == 4) return most;
        if (least < 0 || least > most) return most;
        return least + lot.nextInt(most - least + 1);
    }

    private void same(String call, int got, int want) {
        CHECK.due(run + call, got, want);
    }

    private void frames() {
        int shades = 1 + lot.nextInt(15);
        for (int i = 0; i < 512; i++) frameCall(shades);
    }

    private void frameCall(int shades) {
        int last = Math.max(0, plain.frames.size() - 1);
        int f = any(0, last);
        int kind = lot.nextInt(40);
        if (kind < 2) {
            same("frame", real.frame(), plain.frame());
        } else if (kind < 24) {
            int d = any(0, 15), v = lot.nextInt(30) == 0 ? any(0, 15) : lot.nextInt(shades + 1);
            same("dot " + f + " " + d + " " + v, real.dot(f, d, v), plain.dot(f, d, v));
        } else if (kind == 24) {
            boolean is = lot.nextInt(3) == 0;
            same("key " + f + " " + is, real.key(f, is), plain.key(f, is));
        } else if (kind < 28) {
            int which = any(0, 1), v = any(0, which == 0 ? 80 : 240);
            same("set " + which + " " + v, real.set(which, v), plain.set(which, v));
        } else if (kind < 31) {
            int b = any(0, 3);
            same("way " + f + " " + b, real.way(f, b), plain.way(f, b));
        } else if (kind < 34) {
            int d = any(0, 15);
            same("opened " + f + " " + d, real.opened(f, d), plain.opened(f, d));
        } else if (kind < 38) {
            int what = any(0, 4);
            same("of " + f + " " + what, real.of(f, what), plain.of(f, what));
        } else {
            int what = any(0, 2);
            same("told " + what, real.told(what), plain.told(what));
        }
    }

    private void shows() {
        int calm = 1 + lot.nextInt(200);
        if (calm < 60) {
            // A line so scarce that few or no PIECES are seen.
            same("line", real.line(0, 59, calm % 3), plain.line(0, 59, calm % 3));
        }
        for (int i = 0; i < 40; i++) {
            for (int n = lot.nextInt(5); n >= 0; n--) changeShow(calm);
            for (int what = -1; what < 5; what++) same("show " + what, real.show(what), plain.show(what));
            for (int what = 9; what < 19; what++) same("show " + what, real.show(what), plain.show(what));
            if (i % 4 == 0) allOfBest();
        }
    }

    private void allOfBest() {
        int[] told = plain.bestShow();
        for (int what = 0; what < 4; what++) same("best " + what, real.best(what), PlainModel.part(told, what));
        for (int what = 10; what < 18; what++) same("best " + what, real.best(what), PlainModel.part(told, what));
    }

    private void changeShow(int calm) {
        int kind = lot.nextInt(20);
        if (kind < 2) {
            int n = any(1, 8);
            same("pieces " + n, real.pieces(n), plain.pieces(n));
        } else if (kind < 7) {
            int p = any(0, 7), s = any(0, 2), v = lot.nextInt(4) == 0 ? any(1, 1000) : 1 + lot.nextInt(calm);
            same("bits " + p + " " + s + " " + v, real.bits(p, s, v), plain.bits(p, s, v));
        } else if (kind < 9) {
            int b = any(0, 255);
            same("doors " + b, real.doors(b), plain.doors(b));
        } else if (kind < 14) {
            int from = any(0, 59), to = lot.nextInt(5) == 0 ? any(0, 59) : any(from, 59), v = lot.nextInt(8) == 0 ? any(0, 1000) : lot.nextInt(calm);
            same("line " + from + " " + to + " " + v, real.line(from, to, v), plain.line(from, to, v));
        } else if (kind < 16) {
            int v = any(1, 8);
            same("set 2 " + v, real.set(2, v), plain.set(2, v));
        } else {
            String rule = RULES[lot.nextInt(RULES.length)];
            for (int i = 0; i < rule.length(); i++) same("say", real.say(rule.charAt(i)), plain.say(rule.charAt(i)));
            same("rule " + rule, real.rule(), plain.rule());
        }
    }

    private void texts() {
        for (int i = 0; i < 512; i++) textCall();
    }

    private void textCall() {
        int kind = lot.nextInt(30);
        if (kind == 0) {
            same("wipe", real.wipe(), plain.wipe());
        } else if (kind < 4) {
            same("rule", real.rule(), plain.rule());
        } else if (kind == 4) {
            int sign = any(33, 126);
            same("say " + sign, real.say(sign), plain.say(sign));
        } else if (kind == 5) {
            same("told 3", real.told(3), plain.told(3));
        } else {
            int sign = likelySign();
            same("say " + sign, real.say(sign), plain.say(sign));
        }
        same("fault of " + plain.text, real.fault(), plain.fault());
    }

    /** A sign with which the text goes on, mostly, so that long texts come about. */
    private int likelySign() {
        String signs = "blsk<>0123456789:;012:;";
        for (int n = 0; n < 60; n++) {
            char sign = signs.charAt(lot.nextInt(signs.length()));
            boolean ends = (plain.text + sign).matches(PlainModel.RULE);
            if (PlainModel.goesOn(plain.text + sign) && (!ends || lot.nextInt(8) == 0)) return sign;
        }
        return '0';
    }

    private void stores() {
        for (int i = 0; i < 512; i++) storeCall();
    }

    private void storeCall() {
        int t = any(0, 3), f = any(0, 5);
        switch (lot.nextInt(5)) {
            case 0:
                int what = any(0, 1), v = lot.nextInt(2) == 0 ? any(0, 100) : lot.nextInt(25);
                same("town " + t + " " + what + " " + v, real.town(t, what, v), plain.town(t, what, v));
                break;
            case 1:
                int w = lot.nextInt(2) == 0 ? any(1, 50) : 1 + lot.nextInt(9);
                same("weight " + f + " " + w, real.weight(f, w), plain.weight(f, w));
                break;
            case 2:
                int n = lot.nextInt(2) == 0 ? any(0, 1000) : lot.nextInt(4);
                same("ask " + t + " " + f + " " + n, real.ask(t, f, n), plain.ask(t, f, n));
                break;
            default:
                int part = any(0, 1);
                same("kept " + t + " " + part, real.kept(t, part), plain.kept(t, part));
        }
    }

    private void rights() {
        for (int i = 0; i < 512; i++) rightCall();
    }

    private void rightCall() {
        int s = any(0, 7), f = lot.nextInt(2), l = lot.nextInt(2), h = any(0, 999);
        if (lot.nextInt(10) == 0) {
            f = any(0, 5);
            l = any(0, 3);
        }
        int a = any(0, 59), b = lot.nextInt(6) == 0 ? any(0, 59) : any(a, 59), what = any(0, 1);
        switch (lot.nextInt(9)) {
            case 0:
                int from = any(0, 999), to = lot.nextInt(4) == 0 ? any(0, 999) : any(from, 999), n = any(1, 20);
                if (lot.nextInt(3) == 0) same("right", real.right(f, l, from, to, n), plain.right(f, l, from, to, n));
                break;
            case 1:
                same("land " + s + " " + l, real.land(s, l), plain.land(s, l));
                break;
            case 2:
                same("may " + s + " " + f + " " + h, real.may(s, f, h), plain.may(s, f, h));
                break;
            case 3:
                same("seen " + s + " " + f + " " + what, real.seen(s, f, what), plain.seen(s, f, what));
                break;
            case 4:
                same("owed " + f, real.owed(f), plain.owed(f));
                break;
            case 5:
                int which = any(3, 4), v = any(0, which == 3 ? 100 : 60);
                same("set " + which + " " + v, real.set(which, v), plain.set(which, v));
                break;
            default:
                same("see " + s + " " + f + " " + h + " " + a + " " + b, real.see(s, f, h, a, b), plain.see(s, f, h, a, b));
        }
    }

    private void marksAndGroups() {
        for (int i = 0; i < 512; i++) {
            int s = any(0, 7), known = any(0, 255), is = any(0, 255), what = any(0, 3);
            int g = any(0, 3), at = any(0, 5), v = any(0, 65535), which = any(0, 1);
            int lost = lot.nextInt(2) == 0 ? any(0, 255) : 1 << lot.nextInt(8) | 1 << lot.nextInt(8) | 1 << lot.nextInt(6);
            switch (lot.nextInt(5)) {
                case 0: same("mark " + s + " " + is, real.mark(s, is), plain.mark(s, is)); break;
                case 1: same("blame " + known + " " + is + " " + what, real.blame(known, is, what), plain.blame(known, is, what)); break;
                case 2: same("put " + g + " " + at + " " + v, real.put(g, at, v), plain.put(g, at, v)); break;
                case 3: same("sum " + g + " " + which, real.sum(g, which), plain.sum(g, which)); break;
                default: same("restore " + g + " " + lost + " " + at, real.restore(g, lost, at), plain.restore(g, lost, at));
            }
        }
    }

    private void trees() {
        int falls = 1 + lot.nextInt(60);
        for (int i = 0; i < 512; i++) treeCall(falls);
    }

    private void treeCall(int falls) {
        int n = any(0, 9), o = lot.nextInt(4) == 0 ? any(0, 9) : lot.nextInt(Math.max(1, Math.min(n, 9))), d = any(1, 100), v = any(0, 1000);
        int fan = any(1, 9);
        if (lot.nextInt(falls) == 0) {
            same("fall " + n, real.fall(n), plain.fall(n));
            for (int what = 10; what < 20; what++) same("tree " + what, real.tree(what), plain.tree(what));
            return;
        }
        switch (lot.nextInt(8)) {
            case 0: same("set 5 " + v, real.set(5, v), plain.set(5, v)); break;
            case 1: same("set 6 " + fan, real.set(6, fan), plain.set(6, fan)); break;
            case 2: same("behind " + n, real.behind(n), plain.behind(n)); break;
            case 3: same("tree", real.tree(any10()), plain.tree(last)); break;
            default: same("hang " + n + " " + o + " " + d, real.hang(n, o, d), plain.hang(n, o, d));
        }
    }

    private int last;

    private int any10() {
        last = lot.nextBoolean() ? any(0, 1) : any(10, 19);
        return last;
    }

    private void all() {
        for (int i = 0; i < 512; i++) {
            int part = any(0, 7);
            switch (lot.nextInt(9)) {
                case 0: frameCall(3); break;
                case 1: changeShow(90); break;
                case 2: textCall(); break;
                case 3: storeCall(); break;
                case 4: rightCall(); break;
                case 5: treeCall(20); break;
                case 6: same("told " + part, real.told(part), plain.told(part)); break;
                case 7: same("set", real.set(part, i), plain.set(part, i)); break;
                default: same("show", real.show(part), plain.show(part));
            }
            if (i % 64 == 0) allOfBest();
        }
    }
}
