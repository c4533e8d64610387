import java.util.ArrayList;
import java.util.Arrays;
import java.util.Collections;
import java.util.Comparator;
import java.util.HashMap;
import java.util.List;
import java.util.Map;
import java.util.TreeMap;

/**
 * The document once more, written apart from GapProofs and in another way (names as lists of texts,
 * everything worked out anew at each question), so that RandomRunsTest can compare the two.
 */
final class Model {
    static final int BAD = -1, STATE = -2, FULL = -3, NONE = -4;

    static final Comparator<List<String>> ORDER = (p, q) -> {
        for (int i = 0; i < Math.min(p.size(), q.size()); i++) {
            String a = p.get(i), b = q.get(i);
            if (a.equals(b)) continue;
            if (a.equals("*")) return -1;
            if (b.equals("*")) return 1;
            return a.compareTo(b);
        }
        return Integer.compare(p.size(), q.size());
    };

    static final class Zone {
        List<String> apex;
        boolean signed;
        Zone(List<String> apex, boolean signed) { this.apex = apex; this.signed = signed; }
    }

    record Id(List<String> name, int sort) { }

    static final class It implements Cloneable {
        int kind, zone, sort, key, mark;
        List<String> owner, next;
        int[] abc = new int[3];
    }

    static final class En {
        int zone, kind;
        List<Integer> keys;
        long till;
    }

    static final class Image {
        Map<Id, Integer> records;
        List<TreeMap<Integer, Integer>> out, digests;
        int[] active;
        long clock;
        List<En> cache;
    }

    StringBuilder tape = new StringBuilder();
    int fault;
    List<Zone> zones = new ArrayList<>();
    Map<Id, Integer> records = new HashMap<>();
    int span = 10;
    long clock;
    List<TreeMap<Integer, Integer>> out, digests;
    int[] active;
    List<It> proof;
    List<String> askedName;
    int askedSort;
    long askedAt;
    List<En> cache = new ArrayList<>();
    Image[] images = new Image[2];
    List<String> name = new ArrayList<>();
    int[] lastCheck;

    Model() {
        zones.add(new Zone(List.of(), true));
        anew();
    }

    void anew() {
        clock = 0;
        out = new ArrayList<>();
        digests = new ArrayList<>();
        active = new int[4];
        for (int z = 0; z < zones.size(); z++) {
            TreeMap<Integer, Integer> k = new TreeMap<>(), d = new TreeMap<>();
            if (zones.get(z).signed) {
                k.put(10 + z, 0);
                d.put(10 + z, 0);
                active[z] = 10 + z;
            }
            out.add(k);
            digests.add(d);
        }
        proof = null;
        lastCheck = null;
        cache.clear();
        images[0] = images[1] = null;
        name = new ArrayList<>();
    }

    // ---- the text

    int feed(int c) {
        if (c < 0 || c > 127) return BAD;
        if (tape.length() == 200) return FULL;
        tape.append((char) c);
        return tape.length();
    }

    int end(int n) {
        int had = tape.length();
        if (n < 0 || n > had) return BAD;
        tape.setLength(n);
        return had;
    }

    static final class Fault extends RuntimeException {
        private static final long serialVersionUID = 1L;
        final int number, place;
        Fault(int number, int place) { super(null, null, false, false); this.number = number; this.place = place; }
    }

    private final class Parser {
        final String s = tape.toString();
        int at = 0, start;
        String token;
        List<Zone> newZones = new ArrayList<>(List.of(new Zone(List.of(), true)));
        Map<Id, Integer> newRecords = new HashMap<>();
        Integer newSpan;

        /** "" at the end. */
        void read() {
            while (at < s.length() && s.charAt(at) == ' ') at++;
            start = at;
            if (at == s.length()) { token = ""; return; }
            String rest = s.substring(at);
            if (rest.matches("(?s)[a-z].*")) token = rest.replaceFirst("(?s)[^a-z].*", "");
            else if (rest.matches("(?s)[0-9].*")) {
                token = rest.replaceFirst("(?s)[^0-9].*", "");
                if (token.length() > 2) throw new Fault(1, start);
            } else if (".*;".indexOf(rest.charAt(0)) >= 0) token = rest.substring(0, 1);
            else throw new Fault(1, start);
            at += token.length();
        }

        void mustBe(boolean ok) { if (!ok) throw new Fault(2, start); }

        List<String> readN() {
            read();
            if (token.equals(".")) { read(); return List.of(); }
            List<String> labels = new ArrayList<>();
            while (true) {
                mustBe(token.matches("[a-z]+|\\*"));
                if (labels.size() == 4 || token.length() > 3) throw new Fault(3, start);
                labels.add(0, token);
                read();
                if (!token.equals(".")) return labels;
                read();
            }
        }

        int all() {
            int lines = 0;
            while (true) {
                read();
                if (token.isEmpty()) return lines;
                int word = start;
                switch (token) {
                    case "zone", "plain" -> {
                        boolean signed = token.equals("zone");
                        if (newZones.size() == 4) throw new Fault(4, word);
                        List<String> apex = readN();
                        mustBe(token.equals(";"));
                        for (Zone z : newZones) if (z.apex.equals(apex)) throw new Fault(5, start);
                        newZones.add(new Zone(apex, signed));
                    }
                    case "rec" -> {
                        if (newRecords.size() == 24) throw new Fault(4, word);
                        List<String> n = readN();
                        mustBe(token.matches("[atm]"));
                        int sort = "atm".indexOf(token);
                        read();
                        mustBe(token.matches("[0-9]+"));
                        int v = Integer.parseInt(token);
                        read();
                        mustBe(token.equals(";"));
                        if (newRecords.containsKey(new Id(n, sort))) throw new Fault(5, start);
                        newRecords.put(new Id(n, sort), v);
                    }
                    case "span" -> {
                        if (newSpan != null) throw new Fault(4, word);
                        read();
                        mustBe(token.matches("[0-9]+"));
                        newSpan = Integer.parseInt(token);
                        if (newSpan < 1 || newSpan > 60) throw new Fault(3, start);
                        read();
                        mustBe(token.equals(";"));
                    }
                    default -> mustBe(false);
                }
                lines++;
            }
        }
    }

    int text() {
        Parser p = new Parser();
        tape.setLength(0);
        try {
            int lines = p.all();
            fault = 0;
            zones = p.newZones;
            records = p.newRecords;
            span = p.newSpan == null ? 10 : p.newSpan;
            anew();
            return lines;
        } catch (Fault f) {
            fault = f.number;
            return -10 - f.place;
        }
    }

    int fault() { return fault; }

    // ---- names, zones

    static boolean above(List<String> p, List<String> q) {
        return p.size() < q.size() && q.subList(0, p.size()).equals(p);
    }

    static boolean atOrAbove(List<String> p, List<String> q) { return p.equals(q) || above(p, q); }

    int in(List<String> n) {
        int best = -1;
        for (int z = 0; z < zones.size(); z++) {
            List<String> a = zones.get(z).apex;
            if (atOrAbove(a, n) && (best < 0 || a.size() > zones.get(best).apex.size())) best = z;
        }
        return best;
    }

    int parent(int z) {
        if (z == 0) return NONE;
        List<String> a = zones.get(z).apex;
        return in(a.subList(0, a.size() - 1));
    }

    List<List<String>> owners(int z) {
        List<List<String>> all = new ArrayList<>();
        all.add(zones.get(z).apex);
        for (Id id : records.keySet()) if (in(id.name) == z && !all.contains(id.name)) all.add(id.name);
        for (int c = 1; c < zones.size(); c++) if (parent(c) == z) all.add(zones.get(c).apex);
        Collections.sort(all, ORDER);
        return all;
    }

    int sorts(int z, List<String> o) {
        int bits = 0;
        for (int s = 0; s < 3; s++) if (records.containsKey(new Id(o, s)) && in(o) == z) bits += 1 << s;
        for (int c = 1; c < zones.size(); c++)
            if (parent(c) == z && zones.get(c).apex.equals(o)) bits += zones.get(c).signed ? 24 : 8;
        if (zones.get(z).apex.equals(o)) bits += 32;
        return bits;
    }

    boolean exists(int z, List<String> n) {
        for (List<String> o : owners(z)) if (o.equals(n) || (in(n) == z && above(n, o))) return true;
        return false;
    }

    List<String> closest(int z, List<String> n) {
        for (int k = n.size() - 1; k >= 0; k--) if (exists(z, n.subList(0, k))) return n.subList(0, k);
        return null;
    }

    static List<String> star(List<String> n) {
        List<String> s = new ArrayList<>(n);
        s.add("*");
        return s;
    }

    int label(int a, int b, int c) {
        String s;
        if (a == 27 && b == 0 && c == 0) s = "*";
        else {
            if (a < 1 || a > 26 || b < 0 || b > 26 || c < 0 || c > 26 || (b == 0 && c != 0)) return BAD;
            s = "" + (char) (96 + a) + (b > 0 ? "" + (char) (96 + b) : "") + (c > 0 ? "" + (char) (96 + c) : "");
        }
        if (name.size() == 4) return FULL;
        name = new ArrayList<>(name);
        name.add(s);
        return name.size();
    }

    int up(int n) {
        if (n < 0 || n > name.size()) return BAD;
        name = new ArrayList<>(name.subList(0, name.size() - n));
        return name.size();
    }

    boolean noZone(int z) { return z < 0 || z >= zones.size(); }

    int owner(int z, int i) {
        if (noZone(z) || i < 0) return BAD;
        List<List<String>> o = owners(z);
        if (i >= o.size()) return NONE;
        name = new ArrayList<>(o.get(i));
        return name.size();
    }

    int name(int what) {
        int z = in(name);
        switch (what) {
            case 0: return name.size();
            case 1: return z;
            case 2: return exists(z, name) ? 1 : 0;
            case 3: return owners(z).contains(name) ? sorts(z, name) : 0;
            case 4: return owners(z).contains(name) ? owners(z).indexOf(name) : NONE;
            case 5: return (int) owners(z).stream().filter(o -> ORDER.compare(o, name) < 0).count();
            case 6: return exists(z, name) ? name.size() : closest(z, name).size();
            default: return BAD;
        }
    }

    static int number(char c) { return c == '*' ? 27 : c - 'a' + 1; }

    int letter(int i, int k) {
        if (i < 0 || i >= name.size() || k < 0 || k > 2) return BAD;
        return k < name.get(i).length() ? number(name.get(i).charAt(k)) : 0;
    }

    int zone(int z, int what) {
        if (noZone(z)) return BAD;
        switch (what) {
            case 0: return zones.get(z).signed ? 1 : 0;
            case 1: return parent(z);
            case 2: return zones.get(z).apex.size();
            case 3: return owners(z).size();
            case 4: return (int) records.keySet().stream().filter(r -> in(r.name) == z).count();
            case 5: return out.get(z).size();
            case 6: return digests.get(z).size();
            case 7: return zones.get(z).signed ? active[z] : NONE;
            default: return BAD;
        }
    }

    int key(int z, int i, int what) {
        if (noZone(z) || i < 0 || what < 0 || what > 3) return BAD;
        TreeMap<Integer, Integer> m = (what % 2 == 0 ? out : digests).get(z);
        if (i >= m.size()) return NONE;
        int k = new ArrayList<>(m.keySet()).get(i);
        return what < 2 ? k : m.get(k);
    }

    int rule(int what) {
        switch (what) {
            case 0: return zones.size();
            case 1: return records.size();
            case 2: return (int) clock;
            case 3: return span;
            case 4: return proof == null ? NONE : proof.size();
            case 5: return cache.size();
            case 6: return (int) cache.stream().filter(e -> clock < e.till).count();
            case 7: return tape.length();
            case 8: return (images[0] != null ? 1 : 0) + (images[1] != null ? 1 : 0);
            default: return BAD;
        }
    }

    // ---- answers, proofs

    int outcome(List<String> n, int sort) {
        int z = in(n);
        if (records.containsKey(new Id(n, sort))) return 0;
        if (exists(z, n)) return 1;
        List<String> st = star(closest(z, n));
        if (records.containsKey(new Id(st, sort)) && in(st) == z) return 2;
        if (owners(z).contains(st)) return 3;
        return 4;
    }

    List<Integer> path(int z) {
        List<Integer> p = new ArrayList<>();
        for (int w = z; w >= 0; w = parent(w)) p.add(0, w);
        return p;
    }

    int answer(int sort, int what) {
        if (sort < 0 || sort > 2 || what < 0 || what > 2) return BAD;
        int o = outcome(name, sort);
        if (what == 0) return o;
        if (what == 2) {
            for (int z : path(in(name))) if (!zones.get(z).signed) return 0;
            return 1;
        }
        if (o == 0) return records.get(new Id(name, sort));
        if (o == 2) return records.get(new Id(star(closest(in(name), name)), sort));
        return NONE;
    }

    static int content(It t) {
        List<Integer> n = new ArrayList<>(List.of(t.kind, t.zone));
        for (List<String> nm : List.of(t.owner, t.next == null ? List.<String>of() : t.next)) {
            n.add(nm.size());
            for (String l : nm) {
                for (char c : l.toCharArray()) n.add(number(c));
                n.add(0);
            }
        }
        n.add(t.sort);
        for (int v : t.abc) n.add(v);
        long h = 7;
        for (int v : n) h = (h * 31 + v) % 9973;
        return (int) h;
    }

    static int markBy(It t, int key) { return (int) (((long) content(t) * (2L * key + 1) + key) % 9973); }

    It item(int kind, int zone, List<String> owner, int key) {
        It t = new It();
        t.kind = kind;
        t.zone = zone;
        t.owner = owner;
        t.key = key;
        proof.add(t);
        return t;
    }

    void numbers(It t, TreeMap<Integer, Integer> from) {
        int i = 0;
        for (int k : from.keySet()) t.abc[i++] = k;
    }

    void link(int z, List<String> owner) {
        List<List<String>> o = owners(z);
        It t = item(3, z, owner, active[z]);
        t.next = o.get((o.indexOf(owner) + 1) % o.size());
        t.sort = sorts(z, owner);
    }

    List<String> coverer(int z, List<String> n) {
        List<List<String>> o = owners(z);
        for (int i = 0; i < o.size(); i++) {
            List<String> next = o.get((i + 1) % o.size());
            if (covers(o.get(i), next, n, z)) return o.get(i);
        }
        throw new IllegalStateException("nothing covers " + n);
    }

    boolean covers(List<String> owner, List<String> next, List<String> n, int z) {
        return ORDER.compare(owner, n) < 0 && (ORDER.compare(n, next) < 0 || next.equals(zones.get(z).apex));
    }

    void record(int z, List<String> owner, int sort) {
        It t = item(2, z, owner, active[z]);
        t.sort = sort;
        t.abc[0] = records.get(new Id(owner, sort));
    }

    int ask(int sort) {
        if (sort < 0 || sort > 2) return BAD;
        proof = new ArrayList<>();
        askedName = List.copyOf(name);
        askedSort = sort;
        askedAt = clock;
        build(sort);
        for (It t : proof) t.mark = markBy(t, t.key);
        return proof.size();
    }

    private void build(int sort) {
        int last = in(name);
        for (int z : path(last)) {
            if (z > 0 && !zones.get(z).signed) {
                link(parent(z), zones.get(z).apex);
                return;
            }
            if (z > 0) numbers(item(0, z, zones.get(z).apex, active[parent(z)]), digests.get(z));
            numbers(item(1, z, zones.get(z).apex, active[z]), out.get(z));
        }
        int o = outcome(name, sort);
        List<String> st = o >= 2 ? star(closest(last, name)) : null;
        if (o == 0) record(last, List.copyOf(name), sort);
        if (o == 1) link(last, owners(last).contains(name) ? List.copyOf(name) : coverer(last, name));
        if (o == 2) record(last, st, sort);
        if (o == 3) link(last, st);
        if (o >= 2) link(last, coverer(last, name));
        if (o == 4 && !coverer(last, st).equals(coverer(last, name))) link(last, coverer(last, st));
    }

    int refusal(int i) { return proof == null ? STATE : i >= proof.size() ? NONE : 0; }

    int item(int i, int what) {
        if (i < 0 || what < 0 || what > 10) return BAD;
        if (refusal(i) != 0) return refusal(i);
        It t = proof.get(i);
        int[] all = {t.kind, t.zone, t.owner.size(), t.next == null ? NONE : t.next.size(), t.sort,
            t.abc[0], t.abc[1], t.abc[2], t.key, t.mark, content(t)};
        return all[what];
    }

    int lose(int i) {
        if (i < 0) return BAD;
        if (refusal(i) != 0) return refusal(i);
        proof.remove(i);
        return proof.size();
    }

    int alter(int i, int what, int v) {
        if (i < 0 || what < 4 || what > 9) return BAD;
        int[] low = {0, 0, 0, 0, 1, 0}, high = {63, 999, 999, 999, 999, 9972};
        if (v < low[what - 4] || v > high[what - 4]) return BAD;
        if (refusal(i) != 0) return refusal(i);
        int was = item(i, what);
        It t = proof.get(i);
        if (what == 4) t.sort = v;
        else if (what < 8) t.abc[what - 5] = v;
        else if (what == 8) t.key = v;
        else t.mark = v;
        return was;
    }

    int rename(int i, int what) {
        if (i < 0 || what < 0 || what > 1) return BAD;
        if (refusal(i) != 0) return refusal(i);
        It t = proof.get(i);
        if (what == 1 && t.kind != 3) return NONE;
        int had;
        if (what == 0) { had = t.owner.size(); t.owner = List.copyOf(name); }
        else { had = t.next.size(); t.next = List.copyOf(name); }
        return had;
    }

    int sign(int i) {
        if (i < 0) return BAD;
        if (refusal(i) != 0) return refusal(i);
        proof.get(i).mark = markBy(proof.get(i), proof.get(i).key);
        return proof.get(i).mark;
    }

    En alive(int z, int kind) {
        for (En e : cache) if (e.zone == z && e.kind == kind && clock < e.till) return e;
        return null;
    }

    static boolean right(It t, List<Integer> keys) { return keys.contains(t.key) && t.mark == markBy(t, t.key); }

    static List<Integer> positive(It t) {
        List<Integer> k = new ArrayList<>();
        for (int v : t.abc) if (v > 0) k.add(v);
        return k;
    }

    List<Integer> enter(It t) {
        cache.removeIf(e -> e.zone == t.zone && e.kind == t.kind);
        En e = new En();
        e.zone = t.zone;
        e.kind = t.kind;
        e.keys = positive(t);
        e.till = askedAt + span;
        cache.add(e);
        if (cache.size() == 5) cache.remove(0);
        lastCheck[2]++;
        return e.keys;
    }

    int check() {
        if (proof == null) return STATE;
        lastCheck = new int[] {NONE, 0, 0};
        int last = in(askedName);
        List<Integer> keys = null;
        for (int z : path(last)) {
            lastCheck[1] = z;
            if (alive(z, 1) != null) { keys = alive(z, 1).keys; continue; }
            List<Integer> dig = null;
            if (z == 0) dig = new ArrayList<>(digests.get(0).keySet());
            else if (alive(z, 0) != null) dig = alive(z, 0).keys;
            else {
                for (It t : proof) if (dig == null && t.kind == 0 && t.zone == z && right(t, keys)) dig = enter(t);
                if (dig == null) {
                    if (!zones.get(z).signed)
                        for (It t : proof)
                            if (t.kind == 3 && t.zone == parent(z) && t.owner.equals(zones.get(z).apex)
                                && (t.sort & 24) == 8 && right(t, keys)) return 5;
                    return -21;
                }
            }
            keys = null;
            for (It t : proof)
                if (keys == null && t.kind == 1 && t.zone == z && right(t, positive(t)) && dig.contains(t.key)) keys = enter(t);
            if (keys == null) return -22;
        }
        List<It> good = new ArrayList<>();
        for (It t : proof) if (t.zone == last && right(t, keys)) good.add(t);
        return verdict(good, last);
    }

    private It aRecord(List<It> good, List<String> owner) {
        for (It t : good) if (t.kind == 2 && t.owner.equals(owner) && t.sort == askedSort) return t;
        return null;
    }

    private boolean bare(List<It> good, List<String> owner) {
        for (It t : good) if (t.kind == 3 && t.owner.equals(owner) && (t.sort >> askedSort) % 2 == 0) return true;
        return false;
    }

    private It cover(List<It> good, List<String> n, int z) {
        for (It t : good) if (t.kind == 3 && covers(t.owner, t.next, n, z)) return t;
        return null;
    }

    private int verdict(List<It> good, int z) {
        It r = aRecord(good, askedName);
        if (r != null) { lastCheck[0] = r.abc[0]; return 0; }
        if (bare(good, askedName)) return 1;
        for (It t : good)
            if (t.kind == 3 && covers(t.owner, t.next, askedName, z) && above(askedName, t.next)) return 1;
        It gap = cover(good, askedName, z);
        if (gap == null) return -23;
        List<String> near = null;
        for (int k = 0; k < askedName.size(); k++) {
            List<String> p = askedName.subList(0, k);
            if (atOrAbove(p, gap.owner) || atOrAbove(p, gap.next)) near = p;
        }
        List<String> st = star(near);
        r = aRecord(good, st);
        if (r != null) { lastCheck[0] = r.abc[0]; return 2; }
        if (bare(good, st)) return 3;
        return cover(good, st, z) != null ? 4 : -24;
    }

    int checked(int what) {
        if (what < 0 || what > 2) return BAD;
        return lastCheck == null ? STATE : lastCheck[what];
    }

    int entry(int i, int what) {
        if (i < 0 || what < 0 || what > 6) return BAD;
        if (i >= cache.size()) return NONE;
        En e = cache.get(i);
        switch (what) {
            case 0: return e.zone;
            case 1: return e.kind;
            case 2: case 3: case 4: return what - 2 < e.keys.size() ? e.keys.get(what - 2) : 0;
            case 5: return clock < e.till ? 1 : 0;
            default: return (int) Math.max(0, e.till - clock);
        }
    }

    // ---- the clock, keys

    int tick(int n) {
        if (n < 1 || n > 1000000000) return BAD;
        if (clock + n > Integer.MAX_VALUE) return FULL;
        clock += n;
        return (int) clock;
    }

    boolean bad(int z, int k) { return noZone(z) || k < 1 || k > 999; }

    private int add(List<TreeMap<Integer, Integer>> rows, int z, int k, int most) {
        if (bad(z, k)) return BAD;
        if (!zones.get(z).signed || rows.get(z).containsKey(k)) return STATE;
        if (rows.get(z).size() == most) return FULL;
        rows.get(z).put(k, (int) clock);
        return rows.get(z).size();
    }

    int publish(int z, int k) { return add(out, z, k, 3); }

    int digest(int z, int k) { return add(digests, z, k, 2); }

    int retire(int z, int k) {
        if (bad(z, k)) return BAD;
        if (!zones.get(z).signed || !out.get(z).containsKey(k) || active[z] == k) return STATE;
        out.get(z).remove(k);
        return out.get(z).size();
    }

    int undigest(int z, int k) {
        if (bad(z, k)) return BAD;
        if (!zones.get(z).signed || !digests.get(z).containsKey(k) || (z == 0 && digests.get(0).size() == 1)) return STATE;
        digests.get(z).remove(k);
        return digests.get(z).size();
    }

    int why(int z, int k) {
        if (bad(z, k)) return BAD;
        if (!zones.get(z).signed) return STATE;
        if (active[z] == k) return 1;
        if (!out.get(z).containsKey(k)) return 2;
        if (clock < (long) out.get(z).get(k) + span) return 3;
        if (!digests.get(z).containsKey(k)) return 4;
        if (z > 0 && clock < (long) digests.get(z).get(k) + span) return 5;
        return 0;
    }

    int activate(int z, int k) {
        int w = why(z, k);
        if (w < 0) return w;
        if (w == 1 || w == 2) return STATE;
        int was = active[z];
        active[z] = k;
        return was;
    }

    // ---- records, images

    int put(int sort, int v) {
        if (sort < 0 || sort > 2 || v < 0 || v > 99) return BAD;
        Id id = new Id(List.copyOf(name), sort);
        if (!records.containsKey(id) && records.size() == 24) return FULL;
        Integer had = records.put(id, v);
        return had == null ? NONE : had;
    }

    int remove(int sort) {
        if (sort < 0 || sort > 2) return BAD;
        Integer had = records.remove(new Id(List.copyOf(name), sort));
        return had == null ? NONE : had;
    }

    private static List<TreeMap<Integer, Integer>> copy(List<TreeMap<Integer, Integer>> rows) {
        List<TreeMap<Integer, Integer>> c = new ArrayList<>();
        for (TreeMap<Integer, Integer> r : rows) c.add(new TreeMap<>(r));
        return c;
    }

    int keep(int k) {
        if (k < 0 || k > 1) return BAD;
        int was = images[k] == null ? 0 : 1;
        Image m = new Image();
        m.records = new HashMap<>(records);
        m.out = copy(out);
        m.digests = copy(digests);
        m.active = Arrays.copyOf(active, 4);
        m.clock = clock;
        m.cache = new ArrayList<>(cache);
        images[k] = m;
        return was;
    }

    int back(int k) {
        if (k < 0 || k > 1) return BAD;
        Image m = images[k];
        if (m == null) return STATE;
        records = new HashMap<>(m.records);
        out = copy(m.out);
        digests = copy(m.digests);
        active = Arrays.copyOf(m.active, 4);
        clock = m.clock;
        cache = new ArrayList<>(m.cache);
        proof = null;
        lastCheck = null;
        return records.size();
    }
}
