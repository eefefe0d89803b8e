import java.util.ArrayDeque;
import java.util.ArrayList;
import java.util.Deque;
import java.util.List;
import java.util.Set;
import java.util.TreeSet;

/**
 * The document once more, written in another way (objects, sets, copies, exceptions), so that the
 * class can be compared with it call by call. It is slow, and free in its use of the library.
 */
final class Model {
    static final class Refused extends RuntimeException {
        private static final long serialVersionUID = 1L;
        final int answer;

        Refused(int answer) {
            super(null, null, false, false);
            this.answer = answer;
        }
    }

    static class Pulpit {
        int number, stretch, word;

        List<Integer> words(World w) {
            return new ArrayList<>();
        }

        int goesTo(World w, List<Integer> said) {
            return (stretch + 1) % w.grades.length;
        }

        int size(List<Integer> trace) {
            trace.add(10);
            return word;
        }

        int mark(List<Integer> trace) {
            trace.add(20);
            return number;
        }
    }

    static class Box extends Pulpit {
        @Override
        List<Integer> words(World w) {
            List<Integer> said = new ArrayList<>();
            for (int i = 0; i < w.lets(stretch); i++) {
                said.add((word + i) % w.words);
            }
            return said;
        }

        @Override
        int size(List<Integer> trace) {
            trace.add(11);
            int above = super.size(trace);
            return above + mark(trace);
        }

        @Override
        int mark(List<Integer> trace) {
            trace.add(21);
            return super.mark(trace) + stretch;
        }
    }

    static final class Back extends Box {
        @Override
        int goesTo(World w, List<Integer> said) {
            return (stretch + w.grades.length - 1) % w.grades.length;
        }

        @Override
        int size(List<Integer> trace) {
            trace.add(12);
            return 0 - super.size(trace);
        }

        @Override
        int mark(List<Integer> trace) {
            trace.add(24);
            return super.mark(trace) * 2;
        }
    }

    static final class Pony extends Box {
        @Override
        int goesTo(World w, List<Integer> said) {
            return said.contains(w.hard) ? stretch : super.goesTo(w, said);
        }

        @Override
        int mark(List<Integer> trace) {
            trace.add(22);
            return super.mark(trace) - 1000;
        }
    }

    static class Door extends Pulpit {
        @Override
        int size(List<Integer> trace) {
            trace.add(13);
            return super.size(trace) - 100;
        }

        @Override
        int mark(List<Integer> trace) {
            trace.add(23);
            int above = super.mark(trace);
            return above - size(trace);
        }
    }

    static final class Echo extends Door {
        @Override
        List<Integer> words(World w) {
            List<Integer> said = new ArrayList<>();
            for (int i = 0; i < w.lets(stretch); i++) {
                said.add(Math.floorMod(word - i, w.words));
            }
            return said;
        }

        @Override
        int size(List<Integer> trace) {
            trace.add(14);
            return super.size(trace) * 2;
        }
    }

    static final String SORTS = "?bkyde";
    static final List<Class<? extends Pulpit>> CLASSES =
        List.of(Pulpit.class, Box.class, Back.class, Pony.class, Door.class, Echo.class);

    static Pulpit make(int kind, int number, int stretch, int word) {
        Pulpit[] fresh = {null, new Box(), new Back(), new Pony(), new Door(), new Echo()};
        Pulpit p = fresh[kind];
        p.number = number;
        p.stretch = stretch;
        p.word = word;
        return p;
    }

    static final class World {
        int words, hard, hour;
        int[] grades = {};
        List<Set<Integer>> heard = new ArrayList<>();
        List<Pulpit> pulpits = new ArrayList<>();
        List<Set<Integer>> said = new ArrayList<>();

        World copied() {
            World w = new World();
            w.words = words;
            w.hard = hard;
            w.hour = hour;
            w.grades = grades.clone();
            for (Set<Integer> h : heard) {
                w.heard.add(new TreeSet<>(h));
            }
            for (Pulpit p : pulpits) {
                w.pulpits.add(make(CLASSES.indexOf(p.getClass()), p.number, p.stretch, p.word));
            }
            return w;
        }

        int lets(int stretch) {
            return grades[stretch] == 0 ? 3 : grades[stretch] == 1 ? 1 : 4;
        }

        boolean inCouncil(Pulpit p) {
            return pulpits.stream().anyMatch(q -> q.number < p.number && q.stretch == p.stretch);
        }

        void hour() {
            said = new ArrayList<>();
            for (int s = 0; s < grades.length; s++) {
                said.add(new TreeSet<>());
            }
            List<Pulpit> passing = new ArrayList<>();
            for (Pulpit p : pulpits) {
                if (!inCouncil(p)) {
                    passing.add(p);
                }
            }
            for (Pulpit p : passing) {
                List<Integer> now = p.words(this);
                said.get(p.stretch).addAll(now);
                heard.get(p.stretch).addAll(now);
                int to = p.goesTo(this, now);
                if (!now.isEmpty()) {
                    int step = p instanceof Echo ? -1 : 1;
                    p.word = Math.floorMod(now.get(now.size() - 1) + step, words);
                }
                p.stretch = to;
            }
            hour++;
        }

        World after(int n) {
            World w = copied();
            for (int h = 0; h < n; h++) {
                w.hour();
            }
            return w;
        }

        boolean whole(int gate) {
            return heard.get(gate).size() == words;
        }

        int wholeBits() {
            int bits = 0;
            for (int g = 0; g < grades.length; g++) {
                bits |= whole(g) ? 1 << g : 0;
            }
            return bits;
        }

        int together() {
            return heard.stream().mapToInt(Set::size).sum();
        }

        String shape() {
            StringBuilder b = new StringBuilder();
            for (Pulpit p : pulpits) {
                b.append(p.stretch).append('/').append(p.word).append(' ');
            }
            return b.toString();
        }
    }

    static int bits(Iterable<Integer> set) {
        int bits = 0;
        for (int i : set) {
            bits |= 1 << i;
        }
        return bits;
    }

    final int[][] rows = new int[8][];
    final int[] lanes = new int[8];
    final StringBuilder tape = new StringBuilder();
    World world;
    final World[] images = new World[2];
    final Deque<World> undoable = new ArrayDeque<>();
    List<Integer> trace = new ArrayList<>();
    int fault, status;

    static void bad(boolean isBad) {
        if (isBad) {
            throw new Refused(Check.BAD);
        }
    }

    static void state(boolean is) {
        if (is) {
            throw new Refused(Check.STATE);
        }
    }

    void finding(boolean is, int number) {
        if (is) {
            status = number;
            throw new Refused(-1000010 - number);
        }
    }

    int fine(int answer) {
        status = 0;
        return answer;
    }

    static boolean out(int v, int least, int most) {
        return v < least || v > most;
    }

    boolean noPulpit(int p) {
        return world == null || out(p, 0, world.pulpits.size() - 1);
    }

    boolean noStretch(int s) {
        return world == null || out(s, 0, world.grades.length - 1);
    }

    void act() {
        undoable.addLast(world.copied());
        if (undoable.size() > 24) {
            undoable.removeFirst();
        }
    }

    int call(String name, int[] a) {
        try {
            return answer(name, a);
        } catch (Refused r) {
            return r.answer;
        }
    }

    private int answer(String name, int[] a) {
        switch (name) {
            case "row": return row(a[0], a[1], a[2]);
            case "set": return set(a[0], a[1], a[2]);
            case "copy": return copy(a[0], a[1], a[2], a[3], a[4]);
            case "drop": return drop(a[0]);
            case "feed": return feed(a[0]);
            case "road": return road();
            case "fault": return fault;
            case "hours": return hours(a[0]);
            case "put": return put(a[0], a[1]);
            case "skip": return skip(a[0], a[1]);
            case "forget": return forget(a[0]);
            case "undo": return undo();
            case "pulpit": return pulpit(a[0], a[1]);
            case "stretch": return stretch(a[0], a[1]);
            case "ahead": return ahead(a[0], a[1], a[2]);
            case "heard": return heard(a[0], a[1]);
            case "whole": return whole(a[0]);
            case "first": return first(a[0]);
            case "left": return left(a[0]);
            case "meet": return meet(a[0], a[1]);
            case "round": return round();
            case "best": return best(a[0], a[1], a[2], a[3]);
            case "piece": return piece(a[0]);
            case "walk": return walk(a[0], a[1], a[2]);
            case "fits": return fits(a[0], a[1], a[2], a[3], a[4]);
            case "axles": return axles(a[0], a[1], a[2], a[3]);
            case "drawn": return drawn(a[0], a[1], a[2]);
            case "image": return image(a[0]);
            case "restore": return restore(a[0]);
            case "kind": bad(noPulpit(a[0])); return CLASSES.indexOf(world.pulpits.get(a[0]).getClass());
            case "as": return as(a[0], a[1]);
            case "ask": return ask(a[0], a[1]);
            case "trace": return out(a[0], 0, trace.size() - 1) ? Check.NONE : trace.get(a[0]);
            case "count": return count(a[0]);
            case "status": return status;
            default: throw new IllegalArgumentException(name);
        }
    }

    int row(int row, int lane, int n) {
        bad(out(row, 0, 7) || out(lane, 0, 2) || n > 40);
        finding(n < 0, 4);
        rows[row] = new int[n];
        lanes[row] = lane;
        return fine(n);
    }

    int set(int row, int i, int v) {
        bad(out(row, 0, 7));
        finding(rows[row] == null, 1);
        finding(out(i, 0, rows[row].length - 1), 2);
        int shift = lanes[row] == 0 ? 24 : lanes[row] == 1 ? 16 : 0;
        rows[row][i] = v << shift >> shift;
        return fine(rows[row][i]);
    }

    int copy(int a, int i, int b, int j, int n) {
        bad(out(a, 0, 7) || out(b, 0, 7));
        finding(rows[a] == null || rows[b] == null, 1);
        finding(lanes[a] != lanes[b], 5);
        finding(i < 0 || j < 0 || n < 0, 2);
        finding((long) i + n > rows[a].length || (long) j + n > rows[b].length, 2);
        int[] were = rows[a].clone();
        for (int k = 0; k < n; k++) {
            rows[b][j + k] = were[i + k];
        }
        return fine(n);
    }

    int drop(int row) {
        bad(out(row, 0, 7));
        finding(rows[row] == null, 1);
        int had = rows[row].length;
        rows[row] = null;
        return fine(had);
    }

    int feed(int letter) {
        bad(out(letter, 0, 255));
        if (tape.length() == 90) {
            throw new Refused(Check.FULL);
        }
        tape.append((char) letter);
        return tape.length();
    }

    /** Goes through the tokens with a list of those that may come next, unlike the class. */
    int road() {
        String text = tape.toString();
        tape.setLength(0);
        World w = new World();
        List<Integer> grades = new ArrayList<>();
        List<int[]> pulpits = new ArrayList<>();
        String form = "pW,H;";
        int step = 0;
        int at = 0;
        int[] pulpit = null;
        while (true) {
            int end = at;
            while (end < text.length() && text.charAt(end) >= '0' && text.charAt(end) <= '9') {
                end++;
            }
            boolean figures = end > at;
            int number = figures && end - at <= 2 ? Integer.parseInt(text.substring(at, end)) : -1;
            char c = at < text.length() && !figures ? text.charAt(at) : 0;
            boolean atEnd = at == text.length();
            if (step == form.length()) {
                if (atEnd && grades.size() >= 3) {
                    break;
                }
                boolean stretchMay = pulpits.isEmpty() && c == 'r';
                boolean pulpitMay = grades.size() >= 3 && c != '?' && c != 0 && SORTS.indexOf(c) > 0;
                if (atEnd || !stretchMay && !pulpitMay) {
                    return faulty(at, 1);
                }
                if (stretchMay && grades.size() == 9 || pulpitMay && pulpits.size() == 5) {
                    return faulty(at, 3);
                }
                form = stretchMay ? "rG;" : c + "S,N;";
                step = 0;
                if (pulpitMay) {
                    pulpit = new int[] {SORTS.indexOf(c), 0, 0};
                }
            }
            char want = form.charAt(step);
            if (want >= 'A' && want <= 'Z') {
                if (number < 0) {
                    return faulty(at, 1);
                }
                if (want == 'W' && out(number, 4, 16) || want == 'G' && number > 2
                    || (want == 'H' || want == 'N') && number >= w.words || want == 'S' && number >= grades.size()) {
                    return faulty(at, 2);
                }
                if (want == 'W') {
                    w.words = number;
                } else if (want == 'H') {
                    w.hard = number;
                } else if (want == 'G') {
                    grades.add(number);
                } else {
                    pulpit[want == 'S' ? 1 : 2] = number;
                }
                at = end;
            } else {
                if (atEnd || figures || c != want) {
                    return faulty(at, 1);
                }
                at++;
            }
            step++;
            if (step == form.length() && pulpit != null) {
                pulpits.add(pulpit);
                pulpit = null;
            }
        }
        w.grades = grades.stream().mapToInt(g -> g).toArray();
        for (int s = 0; s < w.grades.length; s++) {
            w.heard.add(new TreeSet<>());
        }
        for (int[] p : pulpits) {
            w.pulpits.add(make(p[0], w.pulpits.size(), p[1], p[2]));
        }
        world = w;
        undoable.clear();
        return pulpits.size();
    }

    int faulty(int place, int number) {
        fault = number;
        return -1000100 - place;
    }

    int hours(int n) {
        state(world == null);
        bad(out(n, 1, 24));
        if (world.hour + n > 9999) {
            throw new Refused(Check.FULL);
        }
        for (int h = 0; h < n; h++) {
            act();
            world.hour();
        }
        return world.wholeBits();
    }

    int put(int pulpit, int stretch) {
        bad(noPulpit(pulpit) || noStretch(stretch));
        int was = world.pulpits.get(pulpit).stretch;
        state(was == stretch);
        act();
        world.pulpits.get(pulpit).stretch = stretch;
        return was;
    }

    int skip(int pulpit, int word) {
        bad(noPulpit(pulpit) || out(word, 0, world.words - 1));
        int was = world.pulpits.get(pulpit).word;
        act();
        world.pulpits.get(pulpit).word = word;
        return was;
    }

    int forget(int gate) {
        bad(noStretch(gate));
        int was = world.heard.get(gate).size();
        state(was == 0);
        act();
        world.heard.get(gate).clear();
        return was;
    }

    int undo() {
        state(undoable.isEmpty());
        world = undoable.removeLast();
        return undoable.size();
    }

    int pulpit(int pulpit, int what) {
        bad(noPulpit(pulpit) || out(what, 0, 3));
        Pulpit p = world.pulpits.get(pulpit);
        return what == 0 ? p.stretch : what == 1 ? p.word
            : what == 2 ? (world.inCouncil(p) ? 1 : 0) : bits(p.words(world));
    }

    int stretch(int stretch, int what) {
        bad(noStretch(stretch) || out(what, 0, 2));
        if (what == 0) {
            return world.grades[stretch];
        }
        if (what == 1) {
            return bits(world.heard.get(stretch));
        }
        Set<Integer> there = new TreeSet<>();
        for (Pulpit p : world.pulpits) {
            if (p.stretch == stretch) {
                there.add(p.number);
            }
        }
        return bits(there);
    }

    int ahead(int pulpit, int d, int what) {
        bad(noPulpit(pulpit) || out(d, 0, 60) || out(what, 0, 1));
        Pulpit p = world.after(d).pulpits.get(pulpit);
        return what == 0 ? p.stretch : p.word;
    }

    int heard(int gate, int d) {
        bad(noStretch(gate) || out(d, 0, 60));
        return bits(world.after(d).heard.get(gate));
    }

    int whole(int gate) {
        bad(noStretch(gate));
        World w = world.copied();
        for (int d = 0; d <= 60; d++, w.hour()) {
            if (w.whole(gate)) {
                return d;
            }
        }
        return Check.NONE;
    }

    int first(int what) {
        state(world == null);
        bad(out(what, 0, 1));
        int gate = Check.NONE;
        int hours = Check.NONE;
        for (int g = 0; g < world.grades.length; g++) {
            int d = whole(g);
            if (d != Check.NONE && (hours == Check.NONE || d < hours)) {
                gate = g;
                hours = d;
            }
        }
        return what == 0 ? gate : hours;
    }

    int left(int n) {
        state(world == null);
        bad(out(n, 0, 60));
        Set<Integer> words = new TreeSet<>();
        for (int i = 0; i < world.words; i++) {
            words.add(i);
        }
        world.after(n).heard.forEach(words::removeAll);
        return bits(words);
    }

    int meet(int one, int other) {
        bad(noPulpit(one) || noPulpit(other) || one == other);
        for (int d = 0; d <= 60; d++) {
            World w = world.after(d);
            if (w.pulpits.get(one).stretch == w.pulpits.get(other).stretch) {
                return d;
            }
        }
        return Check.NONE;
    }

    int round() {
        state(world == null);
        World w = world.copied();
        for (int d = 1; d <= 200; d++) {
            w.hour();
            if (w.shape().equals(world.shape())) {
                return d;
            }
        }
        return Check.NONE;
    }

    int best(int pulpit, int gate, int n, int what) {
        bad(noPulpit(pulpit) || noStretch(gate) || out(n, 1, 30) || out(what, 0, 1));
        int[] many = new int[world.grades.length];
        for (int s = 0; s < many.length; s++) {
            World w = world.copied();
            w.pulpits.get(pulpit).stretch = s;
            many[s] = w.after(n).heard.get(gate).size();
        }
        int best = 0;
        for (int s = many.length - 1; s >= 0; s--) {
            best = many[s] >= many[best] ? s : best;
        }
        return what == 0 ? best : many[best];
    }

    int piece(int what) {
        state(world == null);
        bad(out(what, 0, 1));
        for (int many = 1; many <= world.grades.length; many++) {
            for (int gates = 0; gates < 1 << world.grades.length; gates++) {
                Set<Integer> words = new TreeSet<>();
                for (int g = 0; g < world.grades.length; g++) {
                    if ((gates >> g & 1) != 0) {
                        words.addAll(world.heard.get(g));
                    }
                }
                if (Integer.bitCount(gates) == many && words.size() == world.words) {
                    return what == 0 ? many : gates;
                }
            }
        }
        return Check.NONE;
    }

    int walk(int stretch, int n, int what) {
        bad(noStretch(stretch) || out(n, 1, 8) || out(what, 0, 1));
        int most = 0;
        int way = 0;
        for (int bits = (1 << n) - 1; bits >= 0; bits--) {
            World w = world.copied();
            Set<Integer> words = new TreeSet<>();
            int where = stretch;
            for (int h = 0; h < n; h++) {
                where = (where + (bits >> h & 1)) % w.grades.length;
                w.hour();
                words.addAll(w.said.get(where));
            }
            if (words.size() >= most) {
                most = words.size();
                way = bits;
            }
        }
        return what == 0 ? most : way;
    }

    int fits(int pulpit, int row, int i, int n, int what) {
        bad(noPulpit(pulpit) || out(row, 0, 7) || out(n, 1, 12) || out(what, 0, 3));
        finding(rows[row] == null, 1);
        finding(i < 0 || (long) i + n > rows[row].length, 2);
        Set<Integer> may = new TreeSet<>();
        int[] ends = {6, world.grades.length, world.words, world.words};
        for (int guess = what == 0 ? 1 : 0; guess < ends[what]; guess++) {
            World w = world.copied();
            Pulpit p = w.pulpits.get(pulpit);
            if (what == 0) {
                w.pulpits.set(pulpit, make(guess, pulpit, p.stretch, p.word));
            } else if (what == 1) {
                p.stretch = guess;
            } else if (what == 2) {
                w.hard = guess;
            } else {
                p.word = guess;
            }
            boolean so = true;
            for (int h = 0; h < n; h++) {
                w.hour();
                so &= w.pulpits.get(pulpit).stretch == rows[row][i + h];
            }
            if (so) {
                may.add(guess);
            }
        }
        return fine(bits(may));
    }

    /** Adds up all ways in which axles may break, unlike the class. */
    int axles(int gate, int word, int c, int what) {
        bad(noStretch(gate) || out(word, 0, world.words - 1) || out(c, 0, 10) || out(what, 0, 1));
        int k = world.pulpits.size();
        long above = 0;
        long below = 1;
        for (int p = 0; p < k; p++) {
            below *= 10;
        }
        for (int broken = 0; broken < 1 << k; broken++) {
            long chance = 1;
            Set<Integer> words = new TreeSet<>(world.heard.get(gate));
            for (Pulpit p : world.pulpits) {
                boolean breaks = (broken >> p.number & 1) != 0;
                chance *= breaks ? c : 10 - c;
                if (!breaks && !world.inCouncil(p) && p.stretch == gate) {
                    words.addAll(p.words(world));
                }
            }
            above += words.contains(word) ? chance : 0;
        }
        long a = above;
        long b = below;
        while (b != 0) {
            long rest = a % b;
            a = b;
            b = rest;
        }
        return (int) ((what == 0 ? above : below) / a);
    }

    int drawn(int n, int seed, int what) {
        state(world == null);
        bad(out(n, 0, 60) || out(seed, 1, 999999) || out(what, 0, 1));
        World w = world.copied();
        java.math.BigInteger x = java.math.BigInteger.valueOf(seed);
        for (int h = 0; h < n; h++) {
            x = x.multiply(java.math.BigInteger.valueOf(16807)).mod(java.math.BigInteger.valueOf(2147483647));
            int v = x.intValueExact();
            if (v % 3 == 0 && !w.pulpits.isEmpty()) {
                w.pulpits.get(v % w.pulpits.size()).stretch = v % w.grades.length;
            }
            w.hour();
        }
        return what == 0 ? w.together() : Integer.bitCount(w.wholeBits());
    }

    int image(int k) {
        bad(out(k, 0, 1));
        state(world == null);
        images[k] = world.copied();
        return 1;
    }

    int restore(int k) {
        bad(out(k, 0, 1));
        state(images[k] == null);
        world = images[k].copied();
        undoable.clear();
        return 1;
    }

    int as(int pulpit, int kind) {
        bad(noPulpit(pulpit) || out(kind, 0, 5));
        finding(!CLASSES.get(kind).isInstance(world.pulpits.get(pulpit)), 3);
        return fine(pulpit);
    }

    int ask(int pulpit, int what) {
        bad(noPulpit(pulpit) || out(what, 0, 1));
        trace = new ArrayList<>();
        Pulpit p = world.pulpits.get(pulpit);
        return what == 0 ? p.size(trace) : p.mark(trace);
    }

    int count(int what) {
        bad(out(what, 0, 9));
        if (what == 0) {
            int there = 0;
            for (int[] row : rows) {
                there += row == null ? 0 : 1;
            }
            return there;
        }
        if (what == 7) {
            return tape.length();
        }
        if (world == null) {
            return 0;
        }
        int[] counts = {0, world.grades.length, world.pulpits.size(), world.hour, world.words, world.hard,
            undoable.size(), 0, world.wholeBits(), world.together()};
        return counts[what];
    }
}
