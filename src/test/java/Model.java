import java.util.ArrayDeque;
import java.util.ArrayList;
import java.util.Deque;
import java.util.List;

/**
 * The document once more, word for word and held in another way, to be asked the same as the
 * program. It knows nothing of limits, but throws what and where the document says.
 */
final class Model {
    static final String[] KINDS = {"CONNECT", "INITIATE", "TEST", "ACCEPT", "REJECT", "REPORT", "CORE"};

    static final class Link {
        int a;
        int b;
        int weight;
    }

    static final class Letter {
        String kind;
        Link link;
        int[] numbers;
    }

    static final class Place {
        int id;
        int state = 0;
        int level = 0;
        int fragment = 0;
        int waiting = 0;
        Link wayIn = null;
        Link best = null;
        int bestWeight = 100;
        Link tested = null;
        boolean done = false;
        List<Link> branches = new ArrayList<>();
        List<Link> rejected = new ArrayList<>();
        Deque<Letter> queue = new ArrayDeque<>();
    }

    private List<Place> places = new ArrayList<>();
    private List<Link> links = new ArrayList<>();
    private int sent = 0;

    void begin(int n) {
        if (n < 1 || n > 7) {
            throw new IllegalArgumentException();
        }
        places = new ArrayList<>();
        links = new ArrayList<>();
        sent = 0;
        for (int id = 0; id < n; id++) {
            Place p = new Place();
            p.id = id;
            places.add(p);
        }
    }

    int edge(int one, int two, int weight) {
        Place first = place(one);
        Place second = place(two);
        if (first == second || weight < 1 || weight > 99
                || links.stream().anyMatch(l -> l.weight == weight)) {
            throw new IllegalArgumentException();
        }
        if (links.size() == 12 || places.stream().anyMatch(p -> p.state != 0)) {
            throw new IllegalStateException();
        }
        Link l = new Link();
        l.a = one;
        l.b = two;
        l.weight = weight;
        links.add(l);
        return links.size() - 1;
    }

    boolean wake(int node) {
        Place p = place(node);
        if (p.state != 0) {
            return false;
        }
        wakeUp(p);
        return true;
    }

    int handle(int node) {
        Place p = place(node);
        if (p.queue.isEmpty()) {
            return -1;
        }
        return take(p);
    }

    int run(int first, int most) {
        place(first);
        if (most < 0 || most > 999) {
            throw new IllegalArgumentException();
        }
        int handled = 0;
        int turn = first;
        while (handled < most && places.stream().anyMatch(p -> !p.queue.isEmpty())) {
            Place p = places.get(turn % places.size());
            turn++;
            if (!p.queue.isEmpty()) {
                take(p);
                handled++;
            }
        }
        return handled;
    }

    int about(int node, int what) {
        Place p = place(node);
        if (what < 0 || what > 9) {
            throw new IllegalArgumentException();
        }
        int[] all = {p.state, p.level, p.fragment, p.waiting, links.indexOf(p.wayIn),
            links.indexOf(p.best), links.indexOf(p.tested), p.bestWeight, p.queue.size(), p.done ? 1 : 0};
        return all[what];
    }

    int mark(int node, int edge) {
        Place p = place(node);
        if (edge < 0 || edge >= links.size()) {
            throw new IndexOutOfBoundsException();
        }
        Link l = links.get(edge);
        if (l.a != node && l.b != node) {
            return -1;
        }
        return p.branches.contains(l) ? 1 : p.rejected.contains(l) ? 2 : 0;
    }

    int message(int node, int i, int what) {
        Place p = place(node);
        if (i < 0 || i >= p.queue.size()) {
            throw new IndexOutOfBoundsException();
        }
        Letter letter = new ArrayList<>(p.queue).get(i);
        switch (what) {
            case 0: return List.of(KINDS).indexOf(letter.kind);
            case 1: return links.indexOf(letter.link);
            case 2: case 3: case 4: return what - 2 < letter.numbers.length ? letter.numbers[what - 2] : 0;
            default: throw new IllegalArgumentException();
        }
    }

    int sent() {
        return sent;
    }

    int left() {
        return places.stream().mapToInt(p -> p.queue.size()).sum();
    }

    int weight() {
        return links.stream()
                .filter(l -> places.get(l.a).branches.contains(l) && places.get(l.b).branches.contains(l))
                .mapToInt(l -> l.weight).sum();
    }

    /** The weight of the lightest trees that connect what is connected, found without messages. */
    int lightestWeight() {
        int[] group = new int[places.size()];
        for (int i = 0; i < group.length; i++) {
            group[i] = i;
        }
        List<Link> byWeight = new ArrayList<>(links);
        byWeight.sort((l, m) -> Integer.compare(l.weight, m.weight));
        int sum = 0;
        for (Link l : byWeight) {
            int from = group[l.a];
            int to = group[l.b];
            if (from != to) {
                sum += l.weight;
                for (int i = 0; i < group.length; i++) {
                    group[i] = group[i] == from ? to : group[i];
                }
            }
        }
        return sum;
    }

    private Place place(int node) {
        if (node < 0 || node >= places.size()) {
            throw new IndexOutOfBoundsException();
        }
        return places.get(node);
    }

    private boolean isBasic(Place p, Link l) {
        return !p.branches.contains(l) && !p.rejected.contains(l);
    }

    private void branch(Place p, Link l) {
        p.rejected.remove(l);
        if (!p.branches.contains(l)) {
            p.branches.add(l);
        }
    }

    private void send(Place p, String kind, Link l, int... numbers) {
        if (l == null) {
            throw new AssertionError(kind + " is sent over no edge");
        }
        Letter letter = new Letter();
        letter.kind = kind;
        letter.link = l;
        letter.numbers = numbers;
        places.get(l.a + l.b - p.id).queue.addLast(letter);
        sent++;
    }

    private void wakeUp(Place p) {
        p.state = 2;
        Link least = null;
        for (Link l : links) {
            if ((l.a == p.id || l.b == p.id) && (least == null || l.weight < least.weight)) {
                least = l;
            }
        }
        if (least != null) {
            branch(p, least);
            send(p, "CONNECT", least, 0);
        }
    }

    private void test(Place p) {
        p.tested = null;
        for (Link l : links) {
            if ((l.a == p.id || l.b == p.id) && isBasic(p, l)
                    && (p.tested == null || l.weight < p.tested.weight)) {
                p.tested = l;
            }
        }
        if (p.tested == null) {
            report(p);
        } else {
            send(p, "TEST", p.tested, p.level, p.fragment);
        }
    }

    private void report(Place p) {
        if (p.waiting < 0) {
            throw new AssertionError("more answers than were waited for");
        }
        if (p.waiting == 0 && p.tested == null) {
            p.state = 2;
            send(p, "REPORT", p.wayIn, p.bestWeight);
        }
    }

    private void moveCore(Place p) {
        if (p.best == null) {
            throw new AssertionError("the core moves without a BEST");
        }
        if (p.branches.contains(p.best)) {
            send(p, "CORE", p.best);
        } else {
            send(p, "CONNECT", p.best, p.level);
            branch(p, p.best);
        }
    }

    private int take(Place p) {
        Letter letter = p.queue.removeFirst();
        Link j = letter.link;
        int[] numbers = letter.numbers;
        switch (letter.kind) {
            case "CONNECT" -> {
                if (p.state == 0) {
                    wakeUp(p);
                }
                if (numbers[0] < p.level) {
                    branch(p, j);
                    send(p, "INITIATE", j, p.level, p.fragment, p.state);
                    p.waiting += p.state == 1 ? 1 : 0;
                } else if (isBasic(p, j)) {
                    p.queue.addLast(letter);
                } else {
                    send(p, "INITIATE", j, p.level + 1, j.weight, 1);
                }
            }
            case "INITIATE" -> {
                p.level = numbers[0];
                p.fragment = numbers[1];
                p.state = numbers[2];
                p.wayIn = j;
                p.best = null;
                p.bestWeight = 100;
                for (Link l : links) {
                    if (l != j && p.branches.contains(l)) {
                        send(p, "INITIATE", l, numbers);
                        p.waiting += numbers[2] == 1 ? 1 : 0;
                    }
                }
                if (numbers[2] == 1) {
                    test(p);
                }
            }
            case "TEST" -> {
                if (p.state == 0) {
                    wakeUp(p);
                }
                if (numbers[0] > p.level) {
                    p.queue.addLast(letter);
                } else if (numbers[1] != p.fragment) {
                    send(p, "ACCEPT", j);
                } else {
                    if (isBasic(p, j)) {
                        p.rejected.add(j);
                    }
                    if (p.tested == j) {
                        test(p);
                    } else {
                        send(p, "REJECT", j);
                    }
                }
            }
            case "ACCEPT" -> {
                p.tested = null;
                if (j.weight < p.bestWeight) {
                    p.best = j;
                    p.bestWeight = j.weight;
                }
                report(p);
            }
            case "REJECT" -> {
                if (isBasic(p, j)) {
                    p.rejected.add(j);
                }
                test(p);
            }
            case "REPORT" -> {
                if (j != p.wayIn) {
                    p.waiting--;
                    if (numbers[0] < p.bestWeight) {
                        p.best = j;
                        p.bestWeight = numbers[0];
                    }
                    report(p);
                } else if (p.state == 1) {
                    p.queue.addLast(letter);
                } else if (numbers[0] > p.bestWeight) {
                    moveCore(p);
                } else if (numbers[0] == 100) {
                    p.done = true;
                }
            }
            default -> moveCore(p);
        }
        return List.of(KINDS).indexOf(letter.kind);
    }
}
