import java.util.ArrayList;
import java.util.HashMap;
import java.util.HashSet;
import java.util.List;
import java.util.Map;
import java.util.NoSuchElementException;
import java.util.Random;
import java.util.Set;

/** Long runs of random calls, against a second telling of the document that is as plain and slow as can be. */
public final class ModelTest {
    static int wrong = 0;
    static int calls = 0;

    // ---- the model ----

    interface Law { int of(Map<String, Integer> facts); }

    static final class Fault extends RuntimeException {
        private static final long serialVersionUID = 1L;
        final int code;
        Fault(int kind, int place) { super(null, null, false, false); code = kind + 16 * place; }
    }

    static final class Token {
        final String kind; final String text; final int place;
        Token(String kind, String text, int place) { this.kind = kind; this.text = text; this.place = place; }
    }

    static final List<String> KINDS = List.of("plain", "poet", "boy", "single");
    static final Set<String> RESERVED = Set.of("pen", "seats", "path", "guest", "mood", "in", "animal", "likes", "coins",
        "foe", "feeds", "tyre", "costs", "rain", "sees", "moods", "move", "hour", "plain", "poet", "boy", "single", "not", "and", "or");

    static List<Token> tokens(String text) {
        List<Token> all = new ArrayList<>();
        java.util.regex.Matcher m = java.util.regex.Pattern.compile("[a-z]+|[0-9]+|[^ \\n]").matcher(text);
        while (m.find()) {
            String s = m.group();
            String kind = s.matches("[a-z]{1,8}") ? "word" : s.matches("[0-9]{1,4}") ? "number"
                : s.matches("[()<=+*;-]") ? s : "bad";
            all.add(new Token(kind, s, m.start()));
        }
        all.add(new Token("end", "", text.length()));
        return all;
    }

    static final class Park {
        List<String> pens = new ArrayList<>(), guests = new ArrayList<>(), animals = new ArrayList<>();
        List<Integer> seats = new ArrayList<>(), kinds = new ArrayList<>(), moods = new ArrayList<>(), in = new ArrayList<>();
        List<Integer> likes = new ArrayList<>(), coins = new ArrayList<>();
        Map<Set<Integer>, Integer> paths = new HashMap<>();
        Set<Set<Integer>> foes = new HashSet<>();
        int feeds = 3, tyreMood = 3, tyreCost = 5, rain = 0;
        Law sees = f -> f.get("liked") * 5 + f.get("humour") - f.get("others");
        Law law = f -> f.get("humour") - 1 + f.get("watched") + f.get("fed") * 2 - f.get("others");
        Set<String> once = new HashSet<>();
    }

    static final class Reading {
        final List<Token> all; int at = 0; final Park park;
        Reading(String text, Park park) { all = tokens(text); this.park = park; }
        Token now() { return all.get(at); }
        Fault fault(int kind) { return new Fault(kind, now().place); }
        boolean is(String text) { return now().text.equals(text) && !now().kind.equals("bad"); }
        void want(String text) { if (!is(text)) throw fault(1); at++; }
        int number(int low, int high) {
            if (!now().kind.equals("number")) throw fault(1);
            int n = Integer.parseInt(now().text);
            if (n < low || n > high) throw fault(4);
            at++;
            return n;
        }
        void name() { if (!now().kind.equals("word") || RESERVED.contains(now().text)) throw fault(1); }
        String fresh() {
            name();
            String n = now().text;
            if (park.pens.contains(n) || park.guests.contains(n) || park.animals.contains(n)) throw fault(3);
            at++;
            return n;
        }
        int known(List<String> names) {
            name();
            int i = names.indexOf(now().text);
            if (i < 0) throw fault(2);
            at++;
            return i;
        }
        Set<Integer> pair(List<String> names, Set<Set<Integer>> told) {
            int a = known(names);
            int b = known(names);
            at--;
            if (a == b || told.contains(Set.of(a, b))) throw fault(3);
            at++;
            return Set.of(a, b);
        }
        int kind() {
            int i = KINDS.indexOf(now().text);
            if (i < 0) throw fault(1);
            at++;
            return i;
        }
        void zoo() {
            while (!now().kind.equals("end")) { zooLine(); want(";"); }
        }
        void zooLine() {
            String word = now().text;
            if (word.equals("pen")) {
                if (park.pens.size() == 6) throw fault(5);
                at++;
                String n = fresh(); want("seats"); int s = number(0, 9);
                park.pens.add(n); park.seats.add(s);
            } else if (word.equals("path")) {
                at++;
                Set<Integer> p = pair(park.pens, park.paths.keySet());
                park.paths.put(p, number(1, 30));
            } else if (word.equals("guest")) {
                if (park.guests.size() == 6) throw fault(5);
                at++;
                String n = fresh(); int k = kind(); want("mood"); int m = number(0, 9); want("in"); int p = known(park.pens);
                park.guests.add(n); park.kinds.add(k); park.moods.add(m); park.in.add(p);
            } else if (word.equals("animal")) {
                if (park.animals.size() == 5) throw fault(5);
                at++;
                String n = fresh(); want("likes"); int k = kind(); want("coins"); int c = number(0, 999);
                park.animals.add(n); park.likes.add(k); park.coins.add(c);
            } else if (word.equals("foe")) {
                at++;
                park.foes.add(pair(park.guests, park.foes));
            } else if (List.of("feeds", "tyre", "rain", "sees", "moods").contains(word)) {
                if (!park.once.add(word)) throw fault(3);
                at++;
                if (word.equals("feeds")) park.feeds = number(0, 9);
                if (word.equals("tyre")) { park.tyreMood = number(1, 9); want("costs"); park.tyreCost = number(0, 99); }
                if (word.equals("rain")) park.rain = number(0, 10);
                if (word.equals("sees")) park.sees = law(Set.of("liked", "humour", "others"), 0);
                if (word.equals("moods")) park.law = law(Set.of("humour", "others", "watched", "fed"), 0);
            } else throw fault(1);
        }
        Law law(Set<String> facts, int depth) {
            Law a = test(facts, depth);
            while (is("and") || is("or")) {
                boolean and = is("and"); at++;
                Law l = a, r = test(facts, depth);
                a = and ? f -> (l.of(f) != 0 ? 1 : 0) * (r.of(f) != 0 ? 1 : 0) : f -> (l.of(f) != 0 ? 1 : 0) + (r.of(f) != 0 ? 1 : 0) > 0 ? 1 : 0;
            }
            return a;
        }
        Law test(Set<String> facts, int depth) {
            Law l = sum(facts, depth);
            if (is("<")) { at++; Law r = sum(facts, depth); return f -> l.of(f) < r.of(f) ? 1 : 0; }
            if (is("=")) { at++; Law r = sum(facts, depth); return f -> l.of(f) == r.of(f) ? 1 : 0; }
            return l;
        }
        Law sum(Set<String> facts, int depth) {
            Law a = product(facts, depth);
            while (is("+") || is("-")) {
                int sign = is("+") ? 1 : -1; at++;
                Law l = a, r = product(facts, depth);
                a = f -> l.of(f) + sign * r.of(f);
            }
            return a;
        }
        Law product(Set<String> facts, int depth) {
            Law a = part(facts, depth);
            while (is("*")) { at++; Law l = a, r = part(facts, depth); a = f -> l.of(f) * r.of(f); }
            return a;
        }
        Law part(Set<String> facts, int depth) {
            Token t = now();
            boolean number = t.kind.equals("number"), fact = t.kind.equals("word") && facts.contains(t.text);
            if (!number && !fact && !is("not") && !is("(")) throw fault(1);
            if (depth == 5) throw fault(5);
            at++;
            if (number) { int n = Integer.parseInt(t.text); return f -> n; }
            if (fact) return f -> f.get(t.text);
            if (t.text.equals("not")) { Law l = part(facts, depth + 1); return f -> l.of(f) == 0 ? 1 : 0; }
            Law l = law(facts, depth + 1);
            want(")");
            return l;
        }
        List<int[]> days() {
            List<int[]> lines = new ArrayList<>();
            while (!now().kind.equals("end")) {
                String word = now().text;
                if (!List.of("move", "tyre", "hour").contains(word)) throw fault(1);
                if (lines.size() == 40) throw fault(5);
                at++;
                int g = word.equals("hour") ? 0 : known(park.guests);
                int p = word.equals("move") ? known(park.pens) : 0;
                lines.add(new int[] {word.charAt(0), g, p});
                want(";");
            }
            return lines;
        }
    }

    static final class World {
        int hour, taken;
        List<Integer> in = new ArrayList<>(), moods = new ArrayList<>(), coins = new ArrayList<>();
        World() { }
        World(Park p) { in.addAll(p.in); moods.addAll(p.moods); coins.addAll(p.coins); }
        World(World w) { hour = w.hour; taken = w.taken; in.addAll(w.in); moods.addAll(w.moods); coins.addAll(w.coins); }
    }

    static final class Outcome { List<Integer> pens = new ArrayList<>(), paid = new ArrayList<>(); int taken; World after; }

    static final class Tale { World seen; int pen; }

    static final class Note { World world; List<int[]> days; List<Tale> tales; }

    static final class Model {
        Park park = new Park();
        World now = new World();
        List<int[]> days = new ArrayList<>();
        List<Tale> tales = new ArrayList<>();
        List<World> past = new ArrayList<>();
        Note[] marks = new Note[4];
        StringBuilder tape = new StringBuilder();

        int feed(long... three) {
            for (long l : three) for (int i = 7; i >= 0; i--) {
                int s = (int) (l >> 8 * i & 255);
                if ((s == 10 || s >= 32 && s <= 126) && tape.length() < 1000) tape.append((char) s);
            }
            return tape.length();
        }
        int zoo() {
            String text = tape.toString(); tape.setLength(0);
            Park p = new Park();
            try { new Reading(text, p).zoo(); } catch (Fault f) { return f.code; }
            park = p; now = new World(p); days = new ArrayList<>(); tales = new ArrayList<>(); past.clear(); marks = new Note[4];
            return 0;
        }
        int days() {
            String text = tape.toString(); tape.setLength(0);
            try { days = new Reading(text, park).days(); } catch (Fault f) { return f.code; }
            return 0;
        }
        int crowd(World w, int pen) { int n = 0; for (int p : w.in) if (p == pen) n++; return n; }
        int worth(World w, int pen, Set<Integer> liked) {
            int sum = 0;
            for (int g = 0; g < w.in.size(); g++) if (w.in.get(g) == pen) sum += one(g, liked, w.moods.get(g), crowd(w, pen) - 1);
            return sum;
        }
        int one(int g, Set<Integer> liked, int mood, int others) {
            int v = park.sees.of(Map.of("liked", liked.contains(park.kinds.get(g)) ? 1 : 0, "humour", mood, "others", others));
            return v < 0 ? 0 : v > 99 ? 99 : v;
        }
        int choose(World w, List<Integer> seats, Set<Integer> liked) {
            int best = -1;
            for (int p = 0; p < seats.size(); p++)
                if (seats.get(p) > 0 && worth(w, p, liked) > 0 && (best < 0 || worth(w, p, liked) > worth(w, best, liked))) best = p;
            return best;
        }
        Outcome hour(World w, boolean rains) {
            Outcome o = new Outcome();
            o.after = new World(w);
            List<Integer> seats = new ArrayList<>(park.seats);
            for (int a = 0; a < park.animals.size(); a++) {
                Set<Integer> liked = Set.of(park.likes.get(a));
                int p = rains ? -1 : choose(w, seats, liked);
                int pays = p < 0 ? 0 : Math.min(w.coins.get(a), worth(w, p, liked));
                if (p >= 0) seats.set(p, seats.get(p) - 1);
                o.pens.add(p); o.paid.add(pays); o.taken += pays;
                o.after.coins.set(a, w.coins.get(a) - pays);
            }
            for (int g = 0; g < w.in.size(); g++) {
                int p = w.in.get(g), watched = 0;
                for (int seen : o.pens) if (seen == p) watched++;
                int v = park.law.of(Map.of("humour", w.moods.get(g), "others", crowd(w, p) - 1, "watched", watched, "fed", w.hour % 10 == park.feeds ? 1 : 0));
                o.after.moods.set(g, v < 0 ? 0 : v > 9 ? 9 : v);
            }
            o.after.taken += o.taken;
            o.after.hour++;
            return o;
        }
        int paces(World w) { int n = 0; for (int m : w.moods) if (m == 0) n++; return n; }
        boolean foes(int a, int b) { return a != b && park.foes.contains(Set.of(a, b)); }
        World moved(World w, int g, int p) {
            if (w.in.get(g) == p) return null;
            for (int o = 0; o < w.in.size(); o++) if (w.in.get(o) == p && foes(g, o)) return null;
            World x = new World(w); x.in.set(g, p); return x;
        }
        World cheered(World w, int g) { World x = new World(w); x.moods.set(g, Math.min(9, w.moods.get(g) + park.tyreMood)); return x; }
        World tyred(World w, int g) {
            if (w.taken < park.tyreCost) return null;
            World x = cheered(w, g); x.taken -= park.tyreCost; return x;
        }
        World done(World w, int[] line) {
            return line[0] == 'm' ? moved(w, line[1], line[2]) : line[0] == 't' ? tyred(w, line[1]) : hour(w, false).after;
        }
        boolean act(World next) {
            if (next == null) return false;
            past.add(now); if (past.size() > 16) past.remove(0);
            now = next; return true;
        }
        boolean guestIs(int g) { return g >= 0 && g < park.guests.size(); }
        boolean penIs(int p) { return p >= 0 && p < park.pens.size(); }
        boolean animalIs(int a) { return a >= 0 && a < park.animals.size(); }
        int pen(int p, int what) {
            if (!penIs(p) || what < 0 || what > 2) return -1;
            if (what == 0) return park.seats.get(p);
            List<Integer> list = what == 1 ? now.in : hour(now, false).pens;
            int bits = 0;
            for (int i = 0; i < list.size(); i++) if (list.get(i) == p) bits += 1 << i;
            return bits;
        }
        int guest(int g, int what) {
            if (!guestIs(g) || what < 0 || what > 3) return -1;
            return what == 0 ? park.kinds.get(g) : what == 1 ? now.moods.get(g) : what == 2 ? now.in.get(g) : hour(now, false).after.moods.get(g);
        }
        int animal(int a, int what) {
            if (!animalIs(a) || what < 0 || what > 3) return -2;
            return what == 0 ? park.likes.get(a) : what == 1 ? now.coins.get(a) : what == 2 ? hour(now, false).pens.get(a) : hour(now, false).paid.get(a);
        }
        int worth(int a, int p) { return animalIs(a) && penIs(p) ? worth(now, p, Set.of(park.likes.get(a))) : -1; }
        boolean move(int g, int p) { return guestIs(g) && penIs(p) && act(moved(now, g, p)); }
        int tyre(int g) { return guestIs(g) && act(tyred(now, g)) ? now.moods.get(g) : -1; }
        int hour() { Outcome o = hour(now, false); act(o.after); return o.taken; }
        boolean undo() { if (past.isEmpty()) return false; now = past.remove(past.size() - 1); return true; }
        int judged(int what) {
            if (what < 0 || what > 2) return -2;
            World w = new World(park);
            int bad = -1, pace = -1;
            for (int i = days.size() - 1; i >= 0; i--) {
                World x = new World(park);
                boolean ok = true;
                for (int j = 0; j <= i; j++) { World y = done(x, days.get(j)); ok = y != null; if (ok) x = y; }
                if (!ok) bad = i;
                if (ok && paces(x) > 0) pace = i;
                if (i == days.size() - 1) w = x;
            }
            return what == 0 ? bad : what == 1 ? pace : w.taken;
        }
        int show(int what) {
            int n = park.guests.size(), p = park.pens.size();
            if (what < 0 || what >= 2 + n) return -1;
            long best = -1; List<Integer> row = null;
            int all = 1;
            for (int i = 0; i < n; i++) all *= p;
            ways:
            for (int code = 0; code < all; code++) {
                World w = new World(now);
                for (int g = n - 1, c = code; g >= 0; g--, c /= p) w.in.set(g, c % p);
                for (int g = 0; g < n; g++) for (int o = 0; o < g; o++) if (foes(g, o) && w.in.get(g).equals(w.in.get(o))) continue ways;
                Outcome o = hour(w, false);
                long score = o.taken * 10L + 9 - paces(o.after);
                if (score > best) { best = score; row = w.in; }
            }
            if (row == null) return -1;
            return what == 0 ? (int) (best / 10) : what == 1 ? (int) (9 - best % 10) : row.get(what - 2);
        }
        boolean tell(int p) {
            if (tales.size() == 8 || p != -1 && (!penIs(p) || park.seats.get(p) == 0)) return false;
            Tale t = new Tale(); t.seen = new World(now); t.pen = p; tales.add(t); return true;
        }
        Set<Integer> kinds(int bits) { Set<Integer> s = new HashSet<>(); for (int k = 0; k < 4; k++) if ((bits & 1 << k) != 0) s.add(k); return s; }
        List<Integer> fitting() {
            List<Integer> fit = new ArrayList<>();
            for (int s = 0; s < 16; s++) {
                boolean ok = true;
                for (Tale t : tales) ok &= choose(t.seen, park.seats, kinds(s)) == t.pen;
                if (ok) fit.add(s);
            }
            return fit;
        }
        int sets(int what) {
            List<Integer> fit = fitting();
            if (what == 0) return fit.size();
            if (fit.isEmpty() || what < 0 || what > 3) return -1;
            int all = 15, some = 0, least = fit.get(0);
            for (int s : fit) { all &= s; some |= s; if (kinds(s).size() < kinds(least).size()) least = s; }
            return what == 1 ? all : what == 2 ? some : least;
        }
        int next() {
            List<Integer> fit = fitting();
            int best = -1, least = fit.size();
            for (int g = 0; g < park.guests.size(); g++) {
                int yes = 0, no = 0;
                for (int s : fit) if (one(g, kinds(s), now.moods.get(g), 0) > 0) yes++; else no++;
                if (Math.max(yes, no) < least) { least = Math.max(yes, no); best = g; }
            }
            return best;
        }
        int apart(int guest) {
            int n = park.guests.size();
            if (guest != -1 && !guestIs(guest)) return -2;
            for (int k = 0; k <= n; k++) {
                int all = 1;
                for (int i = 0; i < n; i++) all *= k;
                ways:
                for (int code = 0; code < all; code++) {
                    int[] row = new int[n];
                    for (int g = n - 1, c = code; g >= 0; g--, c /= k) row[g] = c % k;
                    int top = 0;
                    for (int g = 0; g < n; g++) {
                        if (row[g] > top) continue ways;
                        top = Math.max(top, row[g] + 1);
                        for (int o = 0; o < g; o++) if (foes(g, o) && row[g] == row[o]) continue ways;
                    }
                    return guest == -1 ? k : row[guest];
                }
            }
            throw new IllegalStateException();
        }
        int tyres() {
            int n = park.guests.size();
            for (int k = 0; k <= n; k++) for (int s = 0; s < 1 << n; s++) {
                if (Integer.bitCount(s) != k) continue;
                World w = now;
                for (int g = 0; g < n; g++) if ((s & 1 << g) != 0) w = cheered(w, g);
                if (paces(hour(w, false).after) == 0) return s;
            }
            return -1;
        }
        int way(int from, int to) {
            Map<Integer, Integer> far = new HashMap<>(Map.of(from, 0));
            for (int i = 0; i < 6; i++) for (Map.Entry<Set<Integer>, Integer> e : park.paths.entrySet()) for (int a : e.getKey()) for (int b : e.getKey())
                if (a != b && far.containsKey(a)) far.merge(b, far.get(a) + e.getValue(), Math::min);
            return far.getOrDefault(to, -1);
        }
        int[] bestWalk; int bestMinutes;
        void walkAll(int[][] far, int from, List<Integer> left, List<Integer> done, int minutes) {
            if (left.isEmpty()) {
                if (bestMinutes < 0 || minutes < bestMinutes) { bestMinutes = minutes; bestWalk = done.stream().mapToInt(i -> i).toArray(); }
                return;
            }
            for (int p : left) {
                if (far[from][p] < 0) continue;
                List<Integer> l = new ArrayList<>(left), d = new ArrayList<>(done);
                l.remove((Integer) p); d.add(p);
                walkAll(far, p, l, d, minutes + far[from][p]);
            }
        }
        int walk(int pen, int what) {
            if (!penIs(pen) || what < 0) return -1;
            int n = park.pens.size();
            int[][] far = new int[n][n];
            for (int a = 0; a < n; a++) for (int b = 0; b < n; b++) far[a][b] = way(a, b);
            bestMinutes = -1;
            walkAll(far, pen, new ArrayList<>(new java.util.TreeSet<>(now.in)), new ArrayList<>(), 0);
            if (bestMinutes < 0 || what > bestWalk.length) return -1;
            return what == 0 ? bestMinutes : bestWalk[what - 1];
        }
        int rain(World w, int guest, int hours) {
            long sum = 0;
            for (int code = 0; code < 1 << hours; code++) {
                long weight = 1;
                boolean hit = false;
                World x = w;
                for (int i = 0; i < hours; i++) {
                    boolean rains = (code & 1 << i) != 0;
                    weight *= rains ? park.rain : 10 - park.rain;
                    x = hour(x, rains).after;
                    hit |= guest == -1 ? paces(x) > 0 : x.moods.get(guest) == 0;
                }
                if (hit) sum += weight;
            }
            for (int i = hours; i < 6; i++) sum *= 10;
            return (int) sum;
        }
        int rain(int guest, int hours) { return (guest == -1 || guestIs(guest)) && hours >= 1 && hours <= 6 ? rain(now, guest, hours) : -2; }
        int first(int hours) {
            if (hours < 1 || hours > 6) return -1;
            int best = -1, least = 0;
            for (int g = 0; g < park.guests.size(); g++) {
                int c = rain(cheered(now, g), -1, hours);
                if (best < 0 || c < least) { best = g; least = c; }
            }
            return best;
        }
        java.math.BigInteger g;
        int draw(int m) {
            g = g.multiply(java.math.BigInteger.valueOf(1103515245)).add(java.math.BigInteger.valueOf(12345)).mod(java.math.BigInteger.TWO.pow(31));
            return g.intValue() / 65536 % m;
        }
        int years(int seed, int hours, int what) {
            if (seed < 0 || seed > 9999 || hours < 1 || hours > 100 || what < 0 || what > 2) return -1;
            g = java.math.BigInteger.valueOf(seed);
            World w = now;
            int taken = 0, paces = 0, moods = 0;
            for (int i = 0; i < hours; i++) {
                if (!park.guests.isEmpty() && !park.pens.isEmpty()) {
                    int a = draw(park.guests.size()), p = draw(park.pens.size());
                    World x = moved(w, a, p);
                    if (x != null) w = x;
                }
                Outcome o = hour(w, draw(10) < park.rain);
                taken += o.taken; w = o.after; paces += paces(w);
            }
            for (int m : w.moods) moods += m;
            return what == 0 ? taken : what == 1 ? paces : moods;
        }
        boolean mark(int m, boolean back) {
            if (m < 0 || m > 3 || back && marks[m] == null) return false;
            if (back) { now = new World(marks[m].world); days = marks[m].days; tales = new ArrayList<>(marks[m].tales); past.clear(); }
            else { marks[m] = new Note(); marks[m].world = new World(now); marks[m].days = days; marks[m].tales = new ArrayList<>(tales); }
            return true;
        }
        int count(int what) {
            int bits = 0, coins = 0;
            for (int i = 0; i < now.moods.size(); i++) if (now.moods.get(i) == 0) bits |= 1 << i;
            for (int c : now.coins) coins += c;
            int[] all = {park.pens.size(), park.guests.size(), park.animals.size(), park.paths.size(), park.foes.size(), now.hour, now.taken,
                bits, coins, days.size(), tales.size(), past.size(), tape.length()};
            return what < 0 || what >= all.length ? -1 : all[what];
        }
    }

    static int rests(int animals, int cost, int what) {
        List<Integer> found = new ArrayList<>();
        for (int a = 1; a <= 6; a++) for (int b = 1; b <= 6; b++) {
            boolean rest = true;
            for (int x = 1; x <= 6; x++) rest &= gets(animals, cost, x, b) <= gets(animals, cost, a, b) && gets(animals, cost, x, a) <= gets(animals, cost, b, a);
            if (rest) found.add(10 * a + b);
        }
        if (animals < 0 || animals > 20 || cost < 0 || cost > 9 || what < -1 || what >= found.size()) return -99;
        return what == -1 ? found.size() : found.get(what);
    }
    static int gets(int animals, int cost, int mine, int other) {
        if (mine > other) return 0;
        return (mine < other ? animals : (animals - animals % 2) / 2) * (mine - cost);
    }

    // ---- random texts ----

    static final Random random = new Random(20261118);
    static int below(int n) { return random.nextInt(n); }
    static String pick(String... all) { return all[below(all.length)]; }
    static String name() { return pick("oak", "elm", "ash", "liked", "fed", "x", "abcdefgh", "y", "zed", "ann", "bob", "cid", "dot"); }
    static String formula(boolean sees, int depth) {
        StringBuilder b = new StringBuilder(part(sees, depth));
        int more = below(4);
        boolean compared = false;
        for (int i = 0; i < more; i++) {
            String op = pick("+", "-", "*", "+", "-", " and ", " or ", "<", "=");
            if (op.equals("<") || op.equals("=")) { if (compared && below(10) != 0) continue; compared = true; }
            if (op.startsWith(" ")) compared = false;
            b.append(op).append(part(sees, depth));
        }
        return b.toString();
    }
    static String part(boolean sees, int depth) {
        int what = below(10);
        int cut = below(12) == 0 ? 6 : 3;
        if (what < 2 && depth < cut) return "not " + part(sees, depth + 1);
        if (what < 4 && depth < cut) return "(" + formula(sees, depth + 1) + ")";
        if (what < 6) return "" + (below(20) == 0 ? below(10000) : below(5));
        if (below(60) == 0) return pick("liked", "watched", "fed", "humour");
        return sees ? pick("liked", "humour", "others", "humour", "liked") : pick("humour", "others", "watched", "fed", "humour");
    }
    static String zooText() {
        StringBuilder b = new StringBuilder();
        int pens = 1 + below(below(4) == 0 ? 6 : 4), guests = below(below(4) == 0 ? 7 : 5), animals = below(6);
        if (below(30) == 0) pens = 7;
        if (below(30) == 0) guests = 7;
        if (below(30) == 0) animals = 6;
        for (int i = 0; i < pens; i++) b.append("pen p").append((char) ('a' + i)).append(" seats ").append(below(4)).append(pick(";", " ;\n"));
        for (int i = 0; i < guests; i++) b.append("guest g").append((char) ('a' + i)).append(' ').append(pick("plain", "poet", "boy", "single"))
            .append(" mood ").append(below(6)).append(pick("in ", " in ")).append('p').append((char) ('a' + below(pens))).append(";");
        for (int i = 0; i < animals; i++) b.append("animal m").append((char) ('a' + i)).append(" likes ").append(pick("plain", "poet", "boy", "single"))
            .append(" coins").append(pick(" ", "")).append(below(below(2) == 0 ? 30 : 300)).append(';');
        for (int i = 0; i < 5; i++) { int p = below(pens), q = below(pens); if (p != q && b.indexOf("path p" + (char) ('a' + p) + " p" + (char) ('a' + q)) < 0 && b.indexOf("path p" + (char) ('a' + q) + " p" + (char) ('a' + p)) < 0) b.append("path p").append((char) ('a' + p)).append(" p").append((char) ('a' + q)).append(' ').append(1 + below(30)).append(';'); }
        for (int i = 0; i < 4 && guests > 1; i++) { int p = below(guests), q = below(guests); if (p < q && b.indexOf("foe g" + (char) ('a' + p) + " g" + (char) ('a' + q)) < 0) b.append("foe g").append((char) ('a' + p)).append(" g").append((char) ('a' + q)).append(';'); }
        if (below(2) == 0) b.append("feeds ").append(below(10)).append(';');
        if (below(2) == 0) b.append("tyre ").append(1 + below(9)).append("costs ").append(below(10)).append(';');
        if (below(4) != 0) b.append("rain ").append(below(11)).append(';');
        if (below(2) == 0) b.append("sees ").append(formula(true, 0)).append(';');
        if (below(2) == 0) b.append("moods ").append(below(2) == 0 ? formula(false, 0) : "humour-1+watched+fed*" + below(4)).append(';');
        return below(4) == 0 ? spoiled(b.toString()) : b.toString();
    }
    static String daysText() {
        StringBuilder b = new StringBuilder();
        int n = below(12) == 0 ? 39 + below(4) : below(15);
        for (int i = 0; i < n; i++) {
            int w = below(3);
            b.append(w == 0 ? "hour" : w == 1 ? "tyre g" + (char) ('a' + below(3)) : "move g" + (char) ('a' + below(3)) + " p" + (char) ('a' + below(3))).append(';');
        }
        return below(5) == 0 ? spoiled(b.toString()) : b.toString();
    }
    static String spoiled(String text) {
        StringBuilder b = new StringBuilder(text);
        for (int n = 1 + below(2); n > 0 && b.length() > 0; n--) {
            int at = below(b.length());
            switch (below(5)) {
                case 0: b.deleteCharAt(at); break;
                case 1: b.setCharAt(at, (char) (32 + below(95))); break;
                case 2: b.insert(at, pick(";", " ", "(", ")", "9", "pen ", "not ", "hour;", "feeds 3;", "rain 0;", "abcdefghi", "12345", "#", "\n")); break;
                case 3: b.setLength(at); break;
                default: int to = Math.min(b.length(), at + below(6)); b.insert(below(b.length()), b.substring(at, to)); break;
            }
        }
        return b.toString();
    }

    // ---- the runs ----

    static void due(String call, long got, long want) {
        calls++;
        if (got != want) { wrong++; if (wrong < 40) System.out.println(call + " answered " + got + ", due is " + want); }
    }
    static long word(String s, int from) {
        long v = 0;
        for (int i = from; i < from + 8; i++) v = v << 8 | (i < s.length() ? s.charAt(i) : below(5) == 0 ? 200 : 0);
        return v;
    }
    static int bit(boolean b) { return b ? 1 : 0; }
    static int feedAll(BearTickets x, Model m, String text) {
        int n = 0;
        for (int i = 0; i < text.length(); i += 24, n++) {
            long a = word(text, i), b = word(text, i + 8), c = word(text, i + 16);
            due("feed", x.feed(a, b, c), m.feed(a, b, c));
        }
        return n + 1;
    }
    static int restsOf(BearTickets x, int a, int c, int w) {
        try { return x.rests(a, c, w); } catch (NoSuchElementException e) { return -99; }
    }
    static int small() { return below(12) == 0 ? pick2() : below(8) - 1; }
    static int pick2() { int[] odd = {-2, -3, 7, 8, 100, Integer.MAX_VALUE, Integer.MIN_VALUE}; return odd[below(odd.length)]; }

    static void call(BearTickets x, Model m, String run) {
        int a = small(), b = small(), c = small();
        String args = run + "(" + a + ", " + b + ", " + c + ") ";
        switch (below(30)) {
            case 0: due(args + "pen", x.pen(a, b), m.pen(a, b)); break;
            case 1: due(args + "guest", x.guest(a, b), m.guest(a, b)); break;
            case 2: due(args + "animal", x.animal(a, b), m.animal(a, b)); break;
            case 3: due(args + "worth", x.worth(a, b), m.worth(a, b)); break;
            case 4: case 5: case 6: due(args + "move", bit(x.move(a, b)), bit(m.move(a, b))); break;
            case 7: case 8: due(args + "tyre", x.tyre(a), m.tyre(a)); break;
            case 9: case 10: case 11: due(args + "hour", x.hour(), m.hour()); break;
            case 12: case 13: due(args + "undo", bit(x.undo()), bit(m.undo())); break;
            case 14: due(args + "judged", x.judged(a), m.judged(a)); break;
            case 15: if (m.park.guests.size() < 6 || m.park.pens.size() < 5 || below(6) == 0) due(args + "show", x.show(a), m.show(a)); break;
            case 16: case 17: due(args + "tell", bit(x.tell(a)), bit(m.tell(a))); break;
            case 18: due(args + "sets", x.sets(a), m.sets(a)); break;
            case 19: due(args + "next", x.next(), m.next()); break;
            case 20: due(args + "apart", x.apart(a), m.apart(a)); break;
            case 21: due(args + "tyres", x.tyres(), m.tyres()); break;
            case 22: due(args + "walk", x.walk(a, b), m.walk(a, b)); break;
            case 23: int n = below(23) - 1, cost = below(12) - 1; due(args + "rests", restsOf(x, n, cost, b), rests(n, cost, b)); break;
            case 24: due(args + "rain", x.rain(a, b), m.rain(a, b)); break;
            case 25: due(args + "first", x.first(a), m.first(a)); break;
            case 26: int seed = below(10002) - 1, hours = below(103) - 1; due(args + "years", x.years(seed, hours, a), m.years(seed, hours, a)); break;
            case 27: boolean back = below(2) == 0; due(args + "mark", bit(x.mark(a, back)), bit(m.mark(a, back))); break;
            default: int what = below(15) - 1; due(args + "count " + what, x.count(what), m.count(what));
        }
    }

    public static void main(String[] args) {
        int good = 0, bad = 0;
        int runs = args.length > 0 ? Integer.parseInt(args[0]) : 400;
        for (int run = 0; run < runs; run++) {
            BearTickets x = new BearTickets();
            Model m = new Model();
            for (int n = 0; n < 512; n++) {
                String where = "run " + run + ", call " + n + " ";
                if (below(n == 0 ? 2 : 80) == 0) {
                    String text = zooText();
                    n += feedAll(x, m, text);
                    int fault = m.zoo();
                    due(where + "zoo " + text, x.zoo(), fault);
                    if (fault == 0) good++; else bad++;
                } else if (below(50) == 0) {
                    String text = daysText();
                    n += feedAll(x, m, text);
                    due(where + "days " + text, x.days(), m.days());
                } else {
                    call(x, m, where);
                }
            }
        }
        System.out.println(calls + " calls, " + good + " zoos, " + bad + " faults, " + (wrong == 0 ? "all answers are as due" : wrong + " answers are not as due"));
        if (wrong != 0) System.exit(1);
    }
}
