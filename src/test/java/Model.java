import java.util.ArrayList;
import java.util.Arrays;
import java.util.HashMap;
import java.util.List;
import java.util.Map;
import java.util.regex.Matcher;
import java.util.regex.Pattern;

/**
 * A second, slow reading of the document, in other ways than the class: texts by patterns and recursion, plans by
 * all pairs of sets, rides by trying rows, gates by finally. ModelTest lets both answer the same calls.
 */
final class Model {
    static final class Fault extends RuntimeException {
        private static final long serialVersionUID = 1L;
        final int kind;
        final int place;

        Fault(int kind, int place) {
            this.kind = kind;
            this.place = place;
        }
    }

    static final class Item implements Cloneable {
        String name;
        int size;
        int price;
        int rent;
        boolean fast;
        int density;
        int counter;
        float heat;

        Item copy() {
            try {
                return (Item) clone();
            } catch (CloneNotSupportedException e) {
                throw new IllegalStateException(e);
            }
        }
    }

    record Asked(int item, int paid, int fast, int[] density) {
    }

    record Entry(int kind, int item, int amount) {
    }

    static final class Book {
        final int kind;
        final int lines;
        final List<Entry> written = new ArrayList<>();
        int left;
        int lost;

        Book(int kind, int lines) {
            this.kind = kind;
            this.lines = lines;
        }

        Book copy() {
            Book b = new Book(kind, lines);
            b.written.addAll(written);
            b.left = left;
            b.lost = lost;
            return b;
        }
    }

    static final class World {
        int room = 6;
        int rule = 1;
        List<Item> items = new ArrayList<>();
        List<Asked> log = new ArrayList<>();
        Book[] books = new Book[3];
        int paid;
        int downs;
        int ups;

        World copy() {
            World w = new World();
            w.room = room;
            w.rule = rule;
            for (Item i : items) {
                w.items.add(i.copy());
            }
            w.log.addAll(log);
            for (int k = 0; k < 3; k++) {
                w.books[k] = books[k] == null ? null : books[k].copy();
            }
            w.paid = paid;
            w.downs = downs;
            w.ups = ups;
            return w;
        }

        int fast() {
            int bits = 0;
            for (int k = 0; k < items.size(); k++) {
                bits |= items.get(k).fast ? 1 << k : 0;
            }
            return bits;
        }

        int sizeOf(int set) {
            int sum = 0;
            for (int k = 0; k < items.size(); k++) {
                sum += (set >> k & 1) * items.get(k).size;
            }
            return sum;
        }

        int priceOf(int set) {
            int sum = 0;
            for (int k = 0; k < items.size(); k++) {
                sum += (set >> k & 1) * items.get(k).price;
            }
            return sum;
        }
    }

    private final StringBuilder tape = new StringBuilder();
    World w = new World();
    private int fault;
    private final List<World> past = new ArrayList<>();
    private final World[] images = new World[2];
    private List<Integer> gates = new ArrayList<>();
    private List<Integer> gatesNow = new ArrayList<>();
    private List<Integer> told = new ArrayList<>();
    private String picture = "";

    // ---- texts ----

    int feed(int a, int b, int c, int d, int e) {
        if (tape.length() > 420) {
            return -1;
        }
        for (int n : new int[] {a, b, c, d, e}) {
            for (int i = 3; i >= 0; i--) {
                tape.append((char) (n >>> 8 * i & 255));
            }
        }
        return tape.length();
    }

    boolean end(int n) {
        if (n < 0 || n > tape.length()) {
            return false;
        }
        tape.setLength(n);
        return true;
    }

    private static final Pattern TOKEN = Pattern.compile(" *([a-z0-9]+|[^ ]|$)", Pattern.DOTALL);
    private List<String> tokens;
    private List<Integer> places;
    private int at;

    private void cut() {
        String text = tape.toString();
        tape.setLength(0);
        fault = 0;
        at = 0;
        tokens = new ArrayList<>();
        places = new ArrayList<>();
        if (text.length() > 400) {
            throw new Fault(1, 400);
        }
        Matcher m = TOKEN.matcher(text);
        while (m.find()) {
            tokens.add(m.group(1));
            places.add(m.start(1));
        }
        if (tokens.isEmpty() || !tokens.get(tokens.size() - 1).isEmpty()) {
            tokens.add("");
            places.add(text.length());
        }
    }

    private Fault wrong(int kind) {
        return new Fault(kind, places.get(at));
    }

    private String see() {
        return tokens.get(at);
    }

    private void sign(String s) {
        if (!see().equals(s)) {
            throw wrong(1);
        }
        at++;
    }

    private int number(int low, int high) {
        if (!see().matches("[0-9]{1,2}")) {
            throw wrong(1);
        }
        int n = Integer.parseInt(see());
        if (n < low || n > high) {
            throw wrong(2);
        }
        at++;
        return n;
    }

    private String name() {
        if (!see().matches("[a-z]{1,6}") || List.of("room", "rule", "item", "again").contains(see())) {
            throw wrong(1);
        }
        return see();
    }

    int store() {
        World fresh = new World();
        try {
            cut();
            List<String> once = new ArrayList<>();
            while (!see().isEmpty()) {
                storeLine(fresh, once);
                sign(";");
            }
        } catch (Fault f) {
            fault = f.kind;
            return -1000 - f.place;
        }
        w = fresh;
        past.clear();
        return w.items.size();
    }

    private void storeLine(World fresh, List<String> once) {
        String head = see();
        if (!List.of("room", "rule", "item").contains(head)) {
            throw wrong(1);
        }
        if (once.contains(head)) {
            throw wrong(3);
        }
        if (head.equals("item")) {
            if (fresh.items.size() == 8) {
                throw wrong(4);
            }
            at++;
            Item i = new Item();
            i.name = name();
            if (fresh.items.stream().anyMatch(o -> o.name.equals(i.name))) {
                throw wrong(3);
            }
            at++;
            i.size = number(1, 6);
            i.price = number(1, 60);
            i.rent = number(1, 20);
            fresh.items.add(i);
            return;
        }
        once.add(head);
        at++;
        if (head.equals("room")) {
            fresh.room = number(1, 20);
        } else {
            fresh.rule = List.of("once", "rent", "heat").indexOf(see());
            if (fresh.rule < 0) {
                throw wrong(1);
            }
            at++;
        }
    }

    int names() {
        List<Integer> all;
        try {
            cut();
            all = steps(0);
            if (!see().isEmpty()) {
                throw wrong(1);
            }
        } catch (Fault f) {
            fault = f.kind;
            return -1000 - f.place;
        }
        return askAll(all);
    }

    private List<Integer> steps(int depth) {
        List<Integer> all = new ArrayList<>();
        while (!see().isEmpty() && !see().equals("]")) {
            if (see().equals("again")) {
                if (depth == 2) {
                    throw wrong(5);
                }
                at++;
                int n = number(1, 9);
                sign("[");
                List<Integer> inner = steps(depth + 1);
                sign("]");
                for (int i = 0; i < n; i++) {
                    all.addAll(inner);
                }
            } else {
                String name = name();
                int k = 0;
                while (k < w.items.size() && !w.items.get(k).name.equals(name)) {
                    k++;
                }
                if (k == w.items.size()) {
                    throw wrong(3);
                }
                all.add(k);
                at++;
            }
            sign(";");
        }
        return all;
    }

    int fault() {
        return fault;
    }

    // ---- gates, entries, moves ----

    /** Each call begins so: what gates tell is kept until a call opens one. */
    void call() {
        if (!gatesNow.isEmpty()) {
            gates = gatesNow;
            gatesNow = new ArrayList<>();
        }
    }

    private void through(Runnable deed) {
        gatesNow.add(1);
        try {
            gatesNow.add(2);
            try {
                deed.run();
            } finally {
                gatesNow.add(3);
            }
        } finally {
            gatesNow.add(4);
        }
    }

    private void entry(int kind, int k, int amount) {
        for (Book b : w.books) {
            if (b == null) {
                continue;
            }
            boolean takes = b.kind == 0 || b.kind == 1 && kind < 2 || b.kind == 2 && kind >= 2 || b.kind == 3 && kind == 3;
            if (b.written.size() == b.lines) {
                b.lost++;
            } else if (!takes) {
                b.left++;
            } else {
                b.written.add(new Entry(kind, k, amount));
            }
        }
    }

    private void down(int k) {
        through(() -> {
            Item i = w.items.get(k);
            i.fast = false;
            i.density = 0;
            w.downs++;
        });
        entry(2, k, w.items.get(k).size);
    }

    private void up(int k) {
        through(() -> {
            Item i = w.items.get(k);
            i.fast = true;
            i.density = 60 * i.price / i.size;
            i.counter = 0;
            w.ups++;
        });
        w.paid += w.items.get(k).price;
        entry(3, k, w.items.get(k).price);
    }

    private int free() {
        return w.room - w.sizeOf(w.fast());
    }

    private void makeWay(int size) {
        while (free() < size) {
            int least = Integer.MAX_VALUE;
            int first = -1;
            for (int k = 0; k < w.items.size(); k++) {
                Item i = w.items.get(k);
                if (i.fast) {
                    least = Math.min(least, i.density);
                    first = first < 0 && i.density == 0 ? k : first;
                }
            }
            if (first >= 0) {
                down(first);
                continue;
            }
            for (Item i : w.items) {
                i.density -= i.fast ? least : 0;
            }
        }
    }

    /** A REQUEST, without the LOG: what is PAID. */
    private int serve(int k) {
        int before = w.paid;
        for (Item i : w.items) {
            i.heat *= 0.875f;
        }
        Item i = w.items.get(k);
        i.heat += 1;
        if (i.fast) {
            i.density = 60 * i.price / i.size;
            entry(0, k, 0);
            return 0;
        }
        if (i.size > w.room || w.rule > 0) {
            w.paid += i.rent;
            entry(1, k, i.rent);
        }
        if (i.size <= w.room) {
            i.counter += w.rule == 1 ? i.rent : 0;
            boolean goes = w.rule == 0 || w.rule == 1 && i.counter >= i.price || w.rule == 2 && i.heat * i.rent >= i.price;
            if (goes) {
                makeWay(i.size);
                up(k);
            }
        }
        return w.paid - before;
    }

    private void keep() {
        past.add(w.copy());
        if (past.size() > 8) {
            past.remove(0);
        }
    }

    private int askAll(List<Integer> all) {
        keep();
        int sum = 0;
        for (int k : all) {
            if (w.log.size() < 40) {
                int paid = serve(k);
                sum += paid;
                w.log.add(new Asked(k, paid, w.fast(), w.items.stream().mapToInt(o -> o.density).toArray()));
            }
        }
        return sum;
    }

    private boolean has(int k) {
        return k >= 0 && k < w.items.size();
    }

    int request(int k) {
        if (!has(k)) {
            return -2;
        }
        return w.log.size() == 40 ? -3 : askAll(List.of(k));
    }

    private int x;

    private int draw(int n) {
        x = x * 1103515245 + 12345;
        return (x >>> 8) % n;
    }

    int drawn(int n, int seed) {
        if (n < 1 || n > 40 || w.items.isEmpty()) {
            return -1;
        }
        x = seed;
        List<Integer> all = new ArrayList<>();
        for (int i = 0; i < n; i++) {
            if (draw(3) == 0) {
                all.add(draw(w.items.size()));
            } else {
                all.add(draw(draw(w.items.size()) + 1));
            }
        }
        return askAll(all);
    }

    int carry(int k, int up) {
        if (!has(k) || up < 0 || up > 1) {
            return -2;
        }
        int answer = w.items.get(k).fast == (up == 1) ? 1 : up == 1 && free() < w.items.get(k).size ? 2 : 0;
        if (answer > 0) {
            through(() -> { });
            return answer;
        }
        keep();
        if (up == 1) {
            up(k);
        } else {
            down(k);
        }
        return 0;
    }

    int gate(int i) {
        call();
        return i >= 0 && i < Math.min(60, gates.size()) ? gates.get(i) : -1;
    }

    private int anew(int room, int rule) {
        keep();
        int n = Integer.bitCount(w.fast());
        empty(room, rule);
        w.log.clear();
        return n;
    }

    private void empty(int room, int rule) {
        w.room = room;
        w.rule = rule;
        for (Item i : w.items) {
            i.fast = false;
            i.density = 0;
            i.counter = 0;
            i.heat = 0;
        }
    }

    int room(int n) {
        return n < 1 || n > 20 || n == w.room ? -1 : anew(n, w.rule);
    }

    int rule(int r) {
        return r < 0 || r > 2 || r == w.rule ? -1 : anew(w.room, r);
    }

    // ---- looking ----

    int now(int what) {
        int[] all = {w.room, w.rule, w.items.size(), w.fast(), free(), w.paid, w.log.size(), tape.length(), w.downs, w.ups};
        return what < 0 || what > 9 ? -1 : all[what];
    }

    int item(int k, int what) {
        if (!has(k) || what < 0 || what > 5) {
            return -1;
        }
        Item i = w.items.get(k);
        return new int[] {i.size, i.price, i.rent, i.density, i.counter, Float.floatToIntBits(i.heat)}[what];
    }

    int log(int i, int what) {
        if (i < 0 || i >= w.log.size() || what < 0 || what > 2) {
            return -1;
        }
        Asked a = w.log.get(i);
        return what == 0 ? a.item : what == 1 ? a.paid : a.fast;
    }

    int book(int k, int kind, int lines) {
        if (k < 0 || k > 2 || kind < 0 || kind > 3 || lines < 0 || lines > 30) {
            return -1;
        }
        w.books[k] = new Book(kind, lines);
        return 0;
    }

    int booked(int k, int what) {
        if (k < 0 || k > 2 || w.books[k] == null || what < 0 || what > 5) {
            return -1;
        }
        Book b = w.books[k];
        int sum = b.written.stream().mapToInt(Entry::amount).sum();
        return new int[] {b.written.size(), b.left, b.lost, sum, b.kind, b.lines}[what];
    }

    int line(int k, int i, int what) {
        if (k < 0 || k > 2 || w.books[k] == null || i < 0 || i >= w.books[k].written.size() || what < 0 || what > 2) {
            return -1;
        }
        Entry e = w.books[k].written.get(i);
        return what == 0 ? e.kind : what == 1 ? e.item : e.amount;
    }

    int spent(int k, int what) {
        if (!has(k) || what < 0 || what > 2) {
            return -1;
        }
        int sum = 0;
        for (Asked a : w.log) {
            if (a.item == k) {
                sum += what == 0 ? 1 : what == 1 ? (a.paid == 0 ? 1 : 0) : a.paid;
            }
        }
        return sum;
    }

    int picture() {
        StringBuilder signs = new StringBuilder();
        for (Item i : w.items) {
            signs.append(i.fast ? i.name.substring(0, 1).repeat(i.size) : "");
        }
        picture = signs.append(".".repeat(free())).toString();
        return picture.length();
    }

    int byteAt(int i) {
        return i >= 0 && i < picture.length() ? picture.charAt(i) : -1;
    }

    // ---- plans ----

    /** A plan for the first n REQUESTS: what it pays, then its sets; null: there is none. */
    private int[] planFor(int n, int room, int needed) {
        int sets = 1 << w.items.size();
        List<Map<Integer, int[]>> rows = new ArrayList<>();
        rows.add(new HashMap<>(Map.of(0, new int[] {0})));
        for (int i = 0; i < n; i++) {
            Map<Integer, int[]> row = new HashMap<>();
            for (int set = 0; set < sets; set++) {
                if (w.sizeOf(set) > room || needed >= 0 && (set >> needed & 1) == 0) {
                    continue;
                }
                int[] way = bestInto(rows.get(i), set, w.log.get(i).item, room);
                if (way != null) {
                    row.put(set, way);
                }
            }
            rows.add(row);
        }
        int[] least = null;
        for (int set = 0; set < sets; set++) {
            int[] way = rows.get(n).get(set);
            if (way != null && (least == null || way[0] < least[0])) {
                least = way;
            }
        }
        return least;
    }

    private int[] bestInto(Map<Integer, int[]> ahead, int set, int k, int room) {
        int serving = 0;
        if ((set >> k & 1) == 0) {
            if (w.rule == 0 && w.items.get(k).size <= room) {
                return null;
            }
            serving = w.items.get(k).rent;
        }
        int[] least = null;
        for (int from = 0; from < 1 << w.items.size(); from++) {
            int[] way = ahead.get(from);
            if (way == null) {
                continue;
            }
            int sum = way[0] + w.priceOf(set & ~from) + serving;
            if (least == null || sum < least[0]) {
                least = Arrays.copyOf(way, way.length + 1);
                least[0] = sum;
                least[way.length] = set;
            }
        }
        return least;
    }

    /** All plans there are, for short LOGS with few ITEMS: the first of the cheapest, as the document orders them. */
    int[] tryAllPlans() {
        return tryFrom(0, new int[w.log.size() + 1], null);
    }

    private int[] tryFrom(int i, int[] way, int[] least) {
        if (i == w.log.size()) {
            return least == null || isAhead(way, least) ? way.clone() : least;
        }
        int paid = way[0];
        int from = i == 0 ? 0 : way[i];
        Item asked = w.items.get(w.log.get(i).item);
        for (int set = 0; set < 1 << w.items.size(); set++) {
            boolean there = (set >> w.log.get(i).item & 1) == 1;
            if (w.sizeOf(set) > w.room || w.rule == 0 && !there && asked.size <= w.room) {
                continue;
            }
            way[0] = paid + w.priceOf(set & ~from) + (there ? 0 : asked.rent);
            way[i + 1] = set;
            least = tryFrom(i + 1, way, least);
        }
        way[0] = paid;
        return least;
    }

    private static boolean isAhead(int[] a, int[] b) {
        if (a[0] != b[0]) {
            return a[0] < b[0];
        }
        for (int i = a.length - 1; i > 0; i--) {
            if (a[i] != b[i]) {
                return a[i] < b[i];
            }
        }
        return false;
    }

    private int[] planned() {
        int[] way = planFor(w.log.size(), w.room, -1);
        if (w.log.size() <= 4 && w.items.size() <= 3 && !Arrays.equals(way, tryAllPlans())) {
            throw new IllegalStateException("the model's plans differ");
        }
        return way;
    }

    int best() {
        return w.log.isEmpty() ? -1 : planned()[0];
    }

    int plan(int i, int what) {
        if (i < 0 || i >= w.log.size() || what < 0 || what > 1) {
            return -1;
        }
        int[] way = planned();
        if (what == 1) {
            return way[i + 1];
        }
        return paysAt(way, i);
    }

    private int paysAt(int[] way, int i) {
        int k = w.log.get(i).item;
        int ahead = i == 0 ? 0 : way[i];
        return w.priceOf(way[i + 1] & ~ahead) + ((way[i + 1] >> k & 1) == 1 ? 0 : w.items.get(k).rent);
    }

    private int potential(int[] way, int i) {
        if (i < 0) {
            return 0;
        }
        int sum = 0;
        for (int k = 0; k < w.items.size(); k++) {
            Item o = w.items.get(k);
            int density = w.log.get(i).density[k];
            sum += (w.room - 1) * density * o.size;
            sum += (way[i + 1] >> k & 1) * w.room * (60 * o.price - density * o.size);
        }
        return sum;
    }

    int potential(int i) {
        return i < 0 || i >= w.log.size() ? -1 : potential(planned(), i);
    }

    int proof(int i) {
        if (i < 0 || i >= w.log.size()) {
            return -1000000000;
        }
        int[] way = planned();
        return 60 * w.room * paysAt(way, i) - 60 * w.log.get(i).paid - (potential(way, i) - potential(way, i - 1));
    }

    int bestWith(int k) {
        int[] way = !has(k) || w.log.isEmpty() ? null : planFor(w.log.size(), w.room, k);
        return way == null ? -1 : way[0];
    }

    int upTo(int i) {
        return i < 0 || i >= w.log.size() ? -1 : planFor(i + 1, w.room, -1)[0];
    }

    int ratio() {
        if (w.log.isEmpty()) {
            return -1;
        }
        int sum = w.log.stream().mapToInt(Asked::paid).sum();
        return Float.floatToIntBits((float) sum / (float) planned()[0]);
    }

    // ---- what would be: on a copy of the world, with nothing told ----

    private int onCopy(java.util.function.IntSupplier deed) {
        World real = w;
        List<Integer> realGates = gatesNow;
        w = w.copy();
        gatesNow = new ArrayList<>();
        int answer = deed.getAsInt();
        w = real;
        gatesNow = realGates;
        return answer;
    }

    int soon(int k) {
        if (!has(k)) {
            return -1;
        }
        return onCopy(() -> {
            for (int n = 0; n <= 40; n++) {
                if (w.items.get(k).fast) {
                    return n;
                }
                serve(k);
            }
            return -1;
        });
    }

    int victims(int k) {
        if (!has(k) || w.items.get(k).fast || w.items.get(k).size > w.room) {
            return -1;
        }
        return onCopy(() -> {
            int before = w.fast();
            makeWay(w.items.get(k).size);
            return before & ~w.fast();
        });
    }

    private int cost(int room, int rule) {
        return onCopy(() -> {
            empty(room, rule);
            return w.log.stream().mapToInt(a -> serve(a.item)).sum();
        });
    }

    int curve(int n, int what) {
        if (n < 1 || n > 20 || what < 0 || what > 1) {
            return -1;
        }
        return what == 0 ? cost(n, w.rule) : planFor(w.log.size(), n, -1)[0];
    }

    int would(int r) {
        return r < 0 || r > 2 ? -1 : cost(w.room, r);
    }

    // ---- rides ----

    private List<Integer> findRides(int set, int limit) {
        if (limit < 1 || limit > 40 || set < 0 || set >> w.items.size() != 0 || w.sizeOf(set) > w.room) {
            return null;
        }
        for (int k = 0; k < w.items.size(); k++) {
            if (((set ^ w.fast()) >> k & 1) == 1 && w.items.get(k).size > limit) {
                return null;
            }
        }
        for (int n = 0; ; n++) {
            List<Integer> row = new ArrayList<>();
            if (ride(w.fast(), set, limit, n, row)) {
                return row;
            }
        }
    }

    private boolean ride(int fast, int set, int limit, int n, List<Integer> row) {
        if (n == 0) {
            return fast == set;
        }
        for (int going = 1; going < 1 << w.items.size(); going++) {
            if ((going & ~(fast ^ set)) != 0 || w.sizeOf(going) > limit || w.sizeOf(fast ^ going) > w.room) {
                continue;
            }
            row.add(going);
            if (ride(fast ^ going, set, limit, n - 1, row)) {
                return true;
            }
            row.remove(row.size() - 1);
        }
        return false;
    }

    int rides(int set, int limit) {
        List<Integer> row = findRides(set, limit);
        if (row == null) {
            return -1;
        }
        told = row;
        return row.size();
    }

    int ride(int i) {
        return i >= 0 && i < told.size() ? told.get(i) : -1;
    }

    int shift(int set, int limit) {
        List<Integer> row = findRides(set, limit);
        if (row == null) {
            return -1;
        }
        if (row.isEmpty()) {
            return 0;
        }
        keep();
        int n = 0;
        for (int going : row) {
            int lying = w.fast();
            for (int k = 0; k < 8; k++) {
                if ((going & lying & 1 << k) != 0) {
                    down(k);
                    n++;
                }
            }
            for (int k = 0; k < 8; k++) {
                if ((going & ~lying & 1 << k) != 0) {
                    up(k);
                    n++;
                }
            }
        }
        return n;
    }

    // ---- back ----

    int undo() {
        if (past.isEmpty()) {
            return -1;
        }
        w = past.remove(past.size() - 1);
        return past.size();
    }

    boolean image(int k) {
        if (k < 0 || k > 1) {
            return false;
        }
        images[k] = w.copy();
        return true;
    }

    boolean restore(int k) {
        if (k < 0 || k > 1 || images[k] == null) {
            return false;
        }
        w = images[k].copy();
        past.clear();
        return true;
    }
}
