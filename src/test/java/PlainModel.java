import java.util.ArrayList;
import java.util.Comparator;
import java.util.List;

/** A second reading of the document, as plain as can be: every way to join is tried, nothing is kept for speed. */
final class PlainModel {
    record Half(int part, int side, int ruling, int[][] lists) {
        Half copy() {
            return new Half(part, side, ruling, new int[][] {lists[0].clone(), lists[1].clone()});
        }
    }

    record Way(int upper, int lower, int place, int quarrels) { }

    record Joined(Way way, int chance, int places, int side) { }

    String text = "";
    private String tape = "";
    private int fault = 0;
    private int faultPlace = -1;
    private final List<Half> halves = new ArrayList<>();
    private int atOdds = 0;
    private int price = 3;
    private List<Joined> leaves = new ArrayList<>();
    private List<Half> halvesOfThen = new ArrayList<>();
    private int leastSum;
    private int[] leastMates;

    int feed(int... numbers) {
        if (tape.length() > 380) {
            return -1;
        }
        for (int n : numbers) {
            for (int i = 3; i >= 0; i--) {
                tape += (char) (n >> 8 * i & 255);
            }
        }
        return tape.length();
    }

    int work(int n) {
        if (n < 0 || n > tape.length()) {
            return -2;
        }
        String bytes = tape.substring(0, n);
        tape = "";
        fault = 0;
        faultPlace = -1;
        String letters = "";
        for (int i = 0; i < n; i++) {
            char c = bytes.charAt(i);
            if (c == 10 || c == 32) {
                continue;
            }
            if (c < 'a' || c > 'p' || letters.length() == 160) {
                fault = c < 'a' || c > 'p' ? 1 : 2;
                faultPlace = i;
                return -1;
            }
            letters += c;
        }
        text = letters;
        leaves = new ArrayList<>();
        halvesOfThen = new ArrayList<>();
        return text.length();
    }

    int fault(int what) {
        return what == 0 ? fault : what == 1 ? faultPlace : -1;
    }

    int half(int part, int side, int ruling) {
        if (part < 0 || part > 2 || side < 0 || side > 1 || ruling < 0 || ruling > 9 || halves.size() == 8) {
            return -1;
        }
        Half half = new Half(part, side, ruling, new int[2][8]);
        for (int spot = 0; spot < 16; spot++) {
            half.lists[spot / 8][spot % 8] = 65535;
        }
        halves.add(half);
        return halves.size() - 1;
    }

    private boolean noSpot(int half, int face, int spot) {
        return half < 0 || half >= halves.size() || face < 0 || face > 1 || spot < 0 || spot > 7;
    }

    int light(int half, int face, int spot, int letters) {
        if (noSpot(half, face, spot) || letters < 1 || letters > 65535) {
            return -1;
        }
        int[] line = halves.get(half).lists[face];
        if ((line[spot] & letters) == 0) {
            atOdds++;
            return -2;
        }
        line[spot] &= letters;
        return Integer.toBinaryString(line[spot]).replace("0", "").length();
    }

    int list(int half, int face, int spot) {
        return noSpot(half, face, spot) ? -1 : halves.get(half).lists[face][spot];
    }

    private String lineOfWork(int face, int part, int place) {
        int from = place + 16 * face + 8 * part;
        return text.substring(from, from + 8);
    }

    int quarrels(int half, int part, int place) {
        if (half < 0 || half >= halves.size() || part < 0 || part > 1 || place < 0 || place > text.length() - 32) {
            return -1;
        }
        int sum = 0;
        for (int face = 0; face < 2; face++) {
            String line = lineOfWork(face, part, place);
            for (int spot = 0; spot < 8; spot++) {
                if ((halves.get(half).lists[face][spot] & Check.bit(line.charAt(spot))) == 0) {
                    sum++;
                }
            }
        }
        return sum;
    }

    private int quarrelsOfWay(int upper, int lower, int place) {
        return (upper < 0 ? 0 : quarrels(upper, 0, place)) + (lower < 0 ? 0 : quarrels(lower, 1, place));
    }

    private boolean canLie(int upper, int lower) {
        return (upper < 0 || halves.get(upper).part != 1) && (lower < 0 || halves.get(lower).part != 0);
    }

    private Way bestWay(int a, int b) {
        List<Way> ways = new ArrayList<>();
        Half one = halves.get(a);
        Half two = halves.get(b);
        if (one.side != two.side || one.ruling != two.ruling) {
            return null;
        }
        int[][] lies = a == b ? new int[][] {{-1, a}, {a, -1}} : new int[][] {{a, b}, {b, a}};
        for (int[] lie : lies) {
            for (int place = 0; place <= text.length() - 32 && canLie(lie[0], lie[1]); place++) {
                ways.add(new Way(lie[0], lie[1], place, quarrelsOfWay(lie[0], lie[1], place)));
            }
        }
        int lesser = Math.min(a, b);
        return ways.stream().min(Comparator.comparingInt(Way::quarrels)
            .thenComparingInt(w -> w.upper == lesser ? 0 : 1).thenComparingInt(Way::place)).orElse(null);
    }

    int best(int a, int b, int what) {
        if (a < 0 || b < 0 || a >= halves.size() || b >= halves.size()) {
            return -1;
        }
        Way way = bestWay(a, b);
        if (way == null) {
            return -1;
        }
        return what == 0 ? way.quarrels : what == 1 ? way.place : what == 2 ? way.upper : -1;
    }

    boolean price(int n) {
        if (n < 0 || n > 99) {
            return false;
        }
        price = n;
        return true;
    }

    int join() {
        int size = halves.size();
        if (size == 0 || text.length() < 32) {
            return -1;
        }
        Way[][] ways = new Way[size][size];
        for (int a = 0; a < size; a++) {
            for (int b = a; b < size; b++) {
                ways[a][b] = bestWay(a, b);
            }
        }
        leastMates = null;
        // from the highest choice down to the lowest, so that the order of trying can't hide a wrong tie
        tryMates(ways, new int[size], size - 1, 0);
        leaves = new ArrayList<>();
        halvesOfThen = halves.stream().map(Half::copy).toList();
        for (int h = 0; h < size; h++) {
            if (leastMates[h] >= h) {
                leaves.add(joined(ways[h][leastMates[h]]));
            }
        }
        return leastSum;
    }

    private void tryMates(Way[][] ways, int[] mates, int h, int taken) {
        if (h < 0) {
            weighMates(ways, mates);
        } else if ((taken >> h & 1) == 1) {
            tryMates(ways, mates, h - 1, taken);
        } else {
            for (int mate = h; mate >= 0; mate--) {
                if ((taken >> mate & 1) == 0 && ways[mate][h] != null) {
                    mates[h] = mate;
                    mates[mate] = h;
                    tryMates(ways, mates, h - 1, taken | 1 << h | 1 << mate);
                }
            }
        }
    }

    private void weighMates(Way[][] ways, int[] mates) {
        int sum = 0;
        for (int h = 0; h < mates.length; h++) {
            sum += mates[h] >= h ? ways[h][mates[h]].quarrels + price : 0;
        }
        if (leastMates == null || sum < leastSum || sum == leastSum && java.util.Arrays.compare(mates, leastMates) < 0) {
            leastSum = sum;
            leastMates = mates.clone();
        }
    }

    private Joined joined(Way way) {
        int chance = 0;
        int places = 0;
        for (int place = 0; place + 32 <= text.length(); place++) {
            places++;
            chance += quarrelsOfWay(way.upper, way.lower, place) <= way.quarrels ? 1 : 0;
        }
        return new Joined(way, chance, places, halves.get(way.upper < 0 ? way.lower : way.upper).side);
    }

    int leaf(int k, int what) {
        if (k < 0 || k >= leaves.size()) {
            return -1;
        }
        Joined leaf = leaves.get(k);
        int[] answers = {leaf.way.upper, leaf.way.lower, leaf.way.place, leaf.way.quarrels, leaf.chance, leaf.places};
        return what < 0 || what > 5 ? -1 : answers[what];
    }

    private List<Joined> inOrder() {
        List<Joined> order = new ArrayList<>(leaves);
        order.sort(Comparator.comparingInt((Joined l) -> l.way.place).thenComparingInt(leaves::indexOf));
        return order;
    }

    int book(int k, int what) {
        List<Joined> order = inOrder();
        if (k < 0 || k >= order.size()) {
            return -1;
        }
        Joined one = order.get(k);
        int beyond = k + 1 < order.size() ? order.get(k + 1).way.place - one.way.place - 32 : -1;
        switch (what) {
            case 0:
                return leaves.indexOf(one);
            case 1:
                return beyond >= 0 && beyond % 32 == 0 ? beyond / 32 : -1;
            case 2:
                return beyond == 0 && 1 - one.side != order.get(k + 1).side ? 1 : 0;
            default:
                return -1;
        }
    }

    int led(int half, int face, int spot) {
        if (noSpot(half, face, spot)) {
            return -1;
        }
        for (Joined leaf : leaves) {
            if (leaf.way.upper == half || leaf.way.lower == half) {
                int part = leaf.way.upper == half ? 0 : 1;
                char letter = lineOfWork(face, part, leaf.way.place).charAt(spot);
                boolean has = (halvesOfThen.get(half).lists[face][spot] & Check.bit(letter)) != 0;
                return has ? letter - 'a' : -1;
            }
        }
        return -1;
    }

    int count(int what) {
        int clashes = 0;
        int breaks = 0;
        int lost = 0;
        for (int k = 0; k < leaves.size(); k++) {
            clashes += k + 1 < leaves.size() && book(k, 1) < 0 ? 1 : 0;
            breaks += book(k, 2);
            lost += Math.max(0, book(k, 1));
        }
        int quarrels = leaves.stream().mapToInt(l -> l.way.quarrels).sum();
        int[] answers = {text.length(), halves.size(), atOdds, leaves.size(), quarrels, clashes, breaks, lost};
        return what < 0 || what > 7 ? -1 : answers[what];
    }
}
