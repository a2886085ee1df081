import java.util.ArrayList;
import java.util.HashMap;
import java.util.List;
import java.util.Map;
import java.util.TreeMap;

/** The document once more, written as plainly and as unlike MuleRoad as may be; ModelTest sets one against the other. */
final class PlainRoad {
    static final int NONE = -1;
    private static final String[] KINDS = {"salt", "wire", "mail", "glass"};

    private record Leg(int hours, int climbs, boolean ledge) { }

    private record Snow(int leg, int from, int to, int told) { }

    private record Token(String text, char sort, int place) { }

    private record Bargain(int told, List<List<Token>> rules) { }

    private record Lain(int pack, int place) { }

    private static final class Mule {
        int strength;
        int tired;
        boolean lame;
        int lameHour = NONE;
        List<Lain> lain = new ArrayList<>();
    }

    private static final class Str {
        int inn;
        int leg = NONE;
        boolean up;
        int gone;
        List<Mule> mules = new ArrayList<>();
    }

    private static final class Pack {
        int kind;
        int weight;
        int target;
        int came;
        int inn;
        int string = NONE;
        int delivered = NONE;
        int held;
        int pay;
        Map<Integer, Integer> places = new TreeMap<>();
    }

    private final List<Leg> legs = new ArrayList<>();
    private final List<Str> strings = new ArrayList<>();
    private final List<Snow> snows = new ArrayList<>();
    private final List<Pack> packs = new ArrayList<>();
    private final List<Bargain> bargains = new ArrayList<>();
    private final StringBuilder tape = new StringBuilder();
    private int inns;
    private int hour;
    private int faultPlace = NONE;

    private static boolean in(int n, int least, int most) {
        return least <= n && n <= most;
    }

    int inn(int hours, int climbs, boolean ledge) {
        boolean first = inns == 0 && hours == 0 && climbs == 0 && !ledge;
        boolean other = in(inns, 1, 5) && in(hours, 1, 9) && in(climbs, 0, 9);
        if (!first && !other) {
            return NONE;
        }
        if (other) {
            legs.add(new Leg(hours, climbs, ledge));
        }
        return inns++;
    }

    int string(int inn, int... strengths) {
        if (!in(inn, 0, inns - 1) || strings.size() == 4) {
            return NONE;
        }
        Str s = new Str();
        s.inn = inn;
        for (int strength : strengths) {
            if (!in(strength, 20, 120)) {
                return NONE;
            }
            Mule m = new Mule();
            m.strength = strength;
            s.mules.add(m);
        }
        strings.add(s);
        return strings.size() - 1;
    }

    int snow(int leg, int from, int to) {
        if (!in(leg, 0, legs.size() - 1) || !in(from, 0, 9999) || !in(to, from, 9999) || snows.size() == 60) {
            return NONE;
        }
        snows.add(new Snow(leg, from, to, hour));
        return snows.size() - 1;
    }

    private boolean isShut(int leg, int hour, int known) {
        return snows.stream().anyMatch(s -> s.leg == leg && in(hour, s.from, s.to) && s.told <= known);
    }

    int shut(int leg, int hour, int known) {
        if (!in(leg, 0, legs.size() - 1) || !in(hour, 0, 9999) || !in(known, 0, this.hour)) {
            return NONE;
        }
        return isShut(leg, hour, known) ? 1 : 0;
    }

    int pack(int inn, int other, int kind, int weight) {
        if (!in(inn, 0, inns - 1) || !in(other, 0, inns - 1) || inn == other || !in(kind, 0, 3) || !in(weight, 1, 60)
            || packs.size() == 100) {
            return NONE;
        }
        Pack p = new Pack();
        p.kind = kind;
        p.weight = weight;
        p.target = other;
        p.came = hour;
        p.inn = inn;
        packs.add(p);
        return packs.size() - 1;
    }

    private int weights(Mule m, int place) {
        return m.lain.stream().filter(l -> place == NONE || l.place == place).mapToInt(l -> packs.get(l.pack).weight).sum();
    }

    private int top(Mule m) {
        return m.lain.stream().filter(l -> l.place == 2).mapToInt(Lain::pack).findFirst().orElse(NONE);
    }

    int lay(int string, int mule, int place, int pack) {
        if (!in(string, 0, strings.size() - 1) || !in(mule, 0, 2) || !in(place, 0, 2) || !in(pack, 0, packs.size() - 1)) {
            return -1;
        }
        Str s = strings.get(string);
        Pack p = packs.get(pack);
        Mule m = s.mules.get(mule);
        if (p.delivered != NONE || p.string != NONE || s.leg != NONE || s.inn != p.inn) {
            return -2;
        }
        if (m.lame) {
            return -3;
        }
        if (weights(m, NONE) + p.weight > m.strength) {
            return -4;
        }
        if (p.kind == 3 ? place != 2 || top(m) != NONE : place == 2) {
            return -5;
        }
        m.lain.add(new Lain(pack, place));
        p.string = string;
        return weights(m, NONE);
    }

    int down(int pack) {
        if (!in(pack, 0, packs.size() - 1)) {
            return -1;
        }
        Pack p = packs.get(pack);
        if (p.string == NONE) {
            return -2;
        }
        Str s = strings.get(p.string);
        if (s.leg != NONE) {
            return -3;
        }
        for (Mule m : s.mules) {
            m.lain.removeIf(l -> l.pack == pack);
        }
        p.string = NONE;
        p.inn = s.inn;
        if (p.inn != p.target) {
            return 0;
        }
        p.delivered = hour;
        p.pay = pay(p);
        return 1;
    }

    private int bargainOf(Pack p) {
        int latest = NONE;
        for (int i = 0; i < bargains.size(); i++) {
            latest = bargains.get(i).told <= p.came ? i : latest;
        }
        return latest;
    }

    private int pay(Pack p) {
        int sum = 0;
        if (bargainOf(p) != NONE) {
            for (List<Token> rule : bargains.get(bargainOf(p)).rules) {
                sum += pay(rule, p);
            }
        }
        return sum;
    }

    private int pay(List<Token> rule, Pack p) {
        Map<String, Integer> measured = new HashMap<>();
        measured.put("weight", p.weight);
        measured.put("hours", p.delivered - p.came);
        measured.put("held", p.held);
        for (int i = 0; i < rule.size(); i++) {
            Token t = rule.get(i);
            if (t.sort == 'k' && !t.text.equals(KINDS[p.kind])) {
                return 0;
            }
            if (t.sort == 'r') {
                int way = Integer.compare(measured.get(rule.get(i - 1).text), Integer.parseInt(rule.get(i + 1).text));
                if ("<=>".charAt(way + 1) != t.text.charAt(0)) {
                    return 0;
                }
            }
        }
        int amount = Integer.parseInt(rule.get(rule.size() - 2).text);
        return rule.get(rule.size() - 3).sort == '-' ? -amount : amount;
    }

    int go(int string, boolean up) {
        if (!in(string, 0, strings.size() - 1)) {
            return -1;
        }
        Str s = strings.get(string);
        if (s.leg != NONE) {
            return -2;
        }
        int leg = s.inn - (up ? 0 : 1);
        if (!in(leg, 0, legs.size() - 1)) {
            return -3;
        }
        for (Mule m : s.mules) {
            int apart = weights(m, 0) - weights(m, 1);
            if (apart > 10 || apart < -10 || m.lame && !m.lain.isEmpty()) {
                return -4;
            }
        }
        if (isShut(leg, hour, hour)) {
            return -5;
        }
        if (legs.get(leg).ledge && strings.stream().anyMatch(o -> o.leg == leg)) {
            return -6;
        }
        s.leg = leg;
        s.up = up;
        s.gone = 0;
        return hour + legs.get(leg).hours;
    }

    int hours(int n) {
        if (!in(n, 1, 100) || hour + n > 9999) {
            return NONE;
        }
        for (int i = 0; i < n; i++) {
            anHour();
        }
        return hour;
    }

    private void anHour() {
        for (Pack p : packs) {
            p.places.put(hour, placeNow(p));
            boolean onLeg = p.string != NONE && strings.get(p.string).leg != NONE;
            if (p.delivered != NONE || onLeg) {
                continue;
            }
            int inn = p.string == NONE ? p.inn : strings.get(p.string).inn;
            if (inn != p.target && isShut(Math.min(inn, inn + Integer.signum(p.target - inn)), hour, hour)) {
                p.held++;
            }
        }
        for (Str s : strings) {
            if (s.leg == NONE) {
                s.mules.forEach(PlainRoad::rest);
                continue;
            }
            Leg leg = legs.get(s.leg);
            for (Mule m : s.mules) {
                if (!m.lame) {
                    m.tired = Math.min(100, m.tired + 2 + weights(m, NONE) * leg.climbs / 100);
                    m.lame = m.tired == 100;
                    m.lameHour = m.lame ? hour : m.lameHour;
                }
            }
            if (++s.gone == leg.hours) {
                s.inn = s.leg + (s.up ? 1 : 0);
                s.leg = NONE;
            }
        }
        hour++;
    }

    private static void rest(Mule m) {
        m.tired = Math.max(0, m.tired - 5);
        m.lame &= m.tired > 0;
    }

    /** Of all ways to lay the packs, in order, the best one: 0, 1 or 2 for each. */
    static int[] bestOfAll(int strength, int[] weights) {
        int[] best = null;
        int bestWorth = NONE;
        int ways = (int) Math.round(Math.pow(3, weights.length));
        for (int way = 0; way < ways; way++) {
            int[] sides = new int[weights.length];
            int[] sums = new int[3];
            int taken = 0;
            int rest = way;
            for (int i = weights.length - 1; i >= 0; i--) {
                sides[i] = rest % 3;
                rest /= 3;
                sums[sides[i]] += weights[i];
                taken += sides[i] == 2 ? 0 : 1;
            }
            int load = sums[0] + sums[1];
            int worth = load * 20 + 10 - taken;
            if (load <= strength && Math.abs(sums[0] - sums[1]) <= 10 && worth > bestWorth) {
                best = sides;
                bestWorth = worth;
            }
        }
        return best;
    }

    private List<Integer> lookedAt(int string, int mule) {
        if (!in(string, 0, strings.size() - 1) || !in(mule, 0, 2) || strings.get(string).leg != NONE) {
            return null;
        }
        List<Integer> all = new ArrayList<>();
        for (int i = 0; i < packs.size(); i++) {
            Pack p = packs.get(i);
            if (p.string == NONE && p.delivered == NONE && p.inn == strings.get(string).inn && p.kind != 3) {
                all.add(i);
            }
        }
        return all.subList(0, Math.min(10, all.size()));
    }

    private int[] bestSides(int string, int mule, List<Integer> of) {
        return bestOfAll(strings.get(string).mules.get(mule).strength, of.stream().mapToInt(i -> packs.get(i).weight).toArray());
    }

    int best(int string, int mule) {
        List<Integer> of = lookedAt(string, mule);
        if (of == null) {
            return NONE;
        }
        int[] sides = bestSides(string, mule, of);
        int load = 0;
        for (int i = 0; i < sides.length; i++) {
            load += sides[i] == 2 ? 0 : packs.get(of.get(i)).weight;
        }
        return load;
    }

    int bestOf(int string, int mule, int pack) {
        List<Integer> of = lookedAt(string, mule);
        return of == null || !of.contains(pack) ? NONE : bestSides(string, mule, of)[of.indexOf(pack)];
    }

    int feed(int... numbers) {
        if (tape.length() > 380) {
            return NONE;
        }
        for (int n : numbers) {
            for (int shift = 24; shift >= 0; shift -= 8) {
                tape.append((char) (n >> shift & 255));
            }
        }
        return tape.length();
    }

    int end(int n) {
        if (!in(n, 0, tape.length())) {
            return NONE;
        }
        tape.setLength(n);
        return n;
    }

    /** k a kind, m a measure, a and, n a number, r a relation, : ; - themselves, ? none of these, . the end. */
    private static List<Token> tokens(String text) {
        List<Token> found = new ArrayList<>();
        int at = 0;
        while (at < text.length()) {
            String rest = text.substring(at);
            String token = rest.replaceFirst("(?s)^([a-z]+|[0-9]+|.).*$", "$1");
            if (!token.equals(" ") && !token.equals("\n")) {
                found.add(new Token(token, sortOf(token), at));
            }
            at += token.length();
        }
        found.add(new Token("", '.', text.length()));
        return found;
    }

    private static char sortOf(String token) {
        if (token.matches("salt|wire|mail|glass")) {
            return 'k';
        }
        if (token.matches("weight|hours|held")) {
            return 'm';
        }
        if (token.equals("and")) {
            return 'a';
        }
        if (token.matches("[0-9]{1,4}")) {
            return 'n';
        }
        if (token.matches("[<=>]")) {
            return 'r';
        }
        return token.matches("[:;-]") ? token.charAt(0) : '?';
    }

    /** What may come behind what was read of a rule so far. */
    private static String mayFollow(String read) {
        if (read.isEmpty()) {
            return "km:.";
        }
        switch (read.charAt(read.length() - 1)) {
            case 'k': return "a:";
            case 'm': return "r";
            case 'r': return "n";
            case 'a': return "km";
            case ':': return "-n";
            case '-': return "n";
            default: return read.contains(":") ? ";" : "a:";
        }
    }

    int bargain() {
        if (bargains.size() == 10) {
            return NONE;
        }
        List<List<Token>> rules = new ArrayList<>();
        List<Token> rule = new ArrayList<>();
        String read = "";
        List<Token> all = tokens(tape.toString());
        tape.setLength(0);
        for (Token t : all) {
            faultPlace = t.place;
            if (mayFollow(read).indexOf(t.sort) < 0) {
                return -3;
            }
            boolean fifth = read.endsWith("a") && read.chars().filter(c -> c == 'a').count() == 4;
            if (fifth || rules.size() == 20 && read.isEmpty() && t.sort != '.') {
                return -4;
            }
            rule.add(t);
            read += t.sort;
            if (t.sort == ';') {
                rules.add(rule);
                rule = new ArrayList<>();
                read = "";
            }
        }
        faultPlace = NONE;
        bargains.add(new Bargain(hour, rules));
        return bargains.size() - 1;
    }

    int place() {
        return faultPlace;
    }

    int stringOf(int string, int what) {
        if (!in(string, 0, strings.size() - 1) || !in(what, 0, 4)) {
            return NONE;
        }
        Str s = strings.get(string);
        boolean goes = s.leg != NONE;
        int[] all = {goes ? NONE : s.inn, s.leg, goes ? (s.up ? 1 : 0) : NONE,
            goes ? hour + legs.get(s.leg).hours - s.gone : NONE, s.mules.stream().mapToInt(m -> m.lain.size()).sum()};
        return all[what];
    }

    int muleOf(int string, int mule, int what) {
        if (!in(string, 0, strings.size() - 1) || !in(mule, 0, 2) || !in(what, 0, 7)) {
            return NONE;
        }
        Mule m = strings.get(string).mules.get(mule);
        int[] all = {m.strength, m.tired, m.lame ? 1 : 0, weights(m, NONE), weights(m, 0), weights(m, 1), top(m), m.lameHour};
        return all[what];
    }

    int of(int pack, int what) {
        if (!in(pack, 0, packs.size() - 1) || !in(what, 0, 7)) {
            return NONE;
        }
        Pack p = packs.get(pack);
        int[] all = {p.kind, p.weight, p.target, p.delivered != NONE ? 2 : p.string != NONE ? 1 : 0,
            p.string != NONE ? p.string : p.inn, p.came, p.held, bargainOf(p)};
        return all[what];
    }

    int brought(int pack) {
        return in(pack, 0, packs.size() - 1) && packs.get(pack).delivered != NONE ? packs.get(pack).pay : Due.THROWS;
    }

    private static int placeNow(Pack p) {
        return p.string != NONE ? 10 + p.string : p.inn;
    }

    int was(int pack, int hour) {
        if (!in(pack, 0, packs.size() - 1) || !in(hour, packs.get(pack).came, this.hour)) {
            return NONE;
        }
        return hour == this.hour ? placeNow(packs.get(pack)) : packs.get(pack).places.get(hour);
    }

    int count(int what) {
        int waiting = 0;
        int delivered = 0;
        int pay = 0;
        for (Pack p : packs) {
            waiting += p.delivered == NONE && p.string == NONE ? 1 : 0;
            delivered += p.delivered != NONE ? 1 : 0;
            pay += p.pay;
        }
        int[] all = {hour, inns, strings.size(), packs.size(), snows.size(), bargains.size(), tape.length(), waiting,
            delivered, pay};
        return in(what, 0, 9) ? all[what] : NONE;
    }
}
