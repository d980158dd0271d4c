import java.util.ArrayList;
import java.util.Comparator;
import java.util.List;
import java.util.Set;
import java.util.TreeSet;

/**
 * The document once more, told with sets and lists and without regard to speed or memory, so that random runs of calls
 * can be held against it. It shares no code with Lostroom, and works out afresh what Lostroom keeps.
 */
public final class PlainRoom {
    private static final class Thing {
        int kind, place, foundOn, value, state, room, lastDay, price, soldOn;
        boolean isHeld;
        Set<Integer> words, hidden;
        List<int[]> hands = new ArrayList<>();

        boolean isHere() {
            return state <= 2;
        }

        void putInto(int newRoom, int day) {
            state = 0;
            room = newRoom;
            hands.add(new int[] {newRoom, day});
        }

        List<int[]> keptHands() {
            List<int[]> kept = new ArrayList<>();
            for (int i = 0; i < hands.size(); i++) {
                if (i == 0 || i >= hands.size() - 11) kept.add(hands.get(i));
            }
            return kept;
        }
    }

    private static final class Wish {
        int number, kind, place, from, to, state, servedBy = -1, endedOn;
        Set<Integer> words, told = new TreeSet<>();
    }

    private final boolean[][] near = new boolean[24][24];
    private final boolean[][] alike = new boolean[8][8];
    private final int[] terms = {60, 60, 60, 60, 60, 60, 60, 60};
    private final int[] rates = new int[8];
    private final List<List<Integer>> stops = new ArrayList<>();
    private final List<Thing> things = new ArrayList<>();
    private final List<Wish> wishes = new ArrayList<>();
    private int threshold = 50, day = 0, fees = 0, rewards = 0;

    public PlainRoom() {
        for (int i = 0; i < 4; i++) stops.add(new ArrayList<>());
    }

    private static void bounds(boolean isRight) {
        if (!isRight) throw new IndexOutOfBoundsException();
    }

    private static void argument(boolean isRight) {
        if (!isRight) throw new IllegalArgumentException();
    }

    private static void state(boolean isRight) {
        if (!isRight) throw new IllegalStateException();
    }

    private static boolean in(int number, int from, int to) {
        return from <= number && number <= to;
    }

    private static Set<Integer> set(int bits) {
        argument(bits >= 0 && bits < 16777216);
        Set<Integer> words = new TreeSet<>();
        for (int i = 0, rest = bits; rest > 0; i++, rest /= 2) if (rest % 2 == 1) words.add(i);
        return words;
    }

    private static int bits(Set<Integer> words) {
        int bits = 0;
        for (int word : words) bits += 1 << word;
        return bits;
    }

    private static Set<Integer> both(Set<Integer> one, Set<Integer> other) {
        Set<Integer> common = new TreeSet<>(one);
        common.retainAll(other);
        return common;
    }

    public int countFinds() {
        return things.size();
    }

    public int countClaims() {
        return wishes.size();
    }

    public int hiddenWordsOf(int find) {
        return bits(things.get(find).hidden);
    }

    private Thing thing(int number) {
        bounds(in(number, 0, things.size() - 1));
        return things.get(number);
    }

    private Wish wish(int number) {
        bounds(in(number, 0, wishes.size() - 1));
        return wishes.get(number);
    }

    public boolean near(int word, int other) {
        bounds(in(word, 0, 23) && in(other, 0, 23));
        argument(word != other);
        near[word][other] = !near[word][other];
        near[other][word] = near[word][other];
        return near[word][other];
    }

    public boolean alike(int kind, int other) {
        bounds(in(kind, 0, 7) && in(other, 0, 7));
        argument(kind != other);
        alike[kind][other] = !alike[kind][other];
        alike[other][kind] = alike[kind][other];
        return alike[kind][other];
    }

    public int rule(int kind, int term, int rate) {
        bounds(in(kind, 0, 7));
        argument(in(term, 1, 400) && in(rate, 0, 50));
        int before = terms[kind];
        terms[kind] = term;
        rates[kind] = rate;
        return before;
    }

    public int stop(int train, int room) {
        bounds(in(train, 0, 3) && in(room, 0, 5));
        state(!stops.get(train).contains(room));
        stops.get(train).add(room);
        return stops.get(train).size();
    }

    public int threshold(int score) {
        argument(in(score, 1, 200));
        int before = threshold;
        threshold = score;
        return before;
    }

    public int find(int kind, int place, int daysAgo, int words, int secret, int value, int room) {
        bounds(in(kind, 0, 7) && in(place, 0, 9) && in(room, 0, 5));
        argument(in(daysAgo, 0, day) && in(value, 0, 9999));
        Thing thing = new Thing();
        thing.words = set(words);
        thing.hidden = set(secret);
        argument(both(thing.words, thing.hidden).isEmpty());
        state(things.size() < 30);
        thing.kind = kind;
        thing.place = place;
        thing.foundOn = day - daysAgo;
        thing.value = value;
        thing.lastDay = kind == 7 ? day + 1 : day + terms[kind];
        thing.putInto(room, day);
        things.add(thing);
        return things.size() - 1;
    }

    public int see(int find, int words) {
        Thing thing = thing(find);
        Set<Integer> more = set(words);
        argument(both(more, thing.hidden).isEmpty());
        state(thing.state == 0);
        thing.words.addAll(more);
        return thing.words.size();
    }

    public int send(int find, int room) {
        Thing thing = thing(find);
        bounds(in(room, 0, 5));
        state(thing.state == 0 && thing.room != room);
        int before = thing.room;
        thing.state = 1;
        thing.room = room;
        return before;
    }

    public int lose(int room) {
        bounds(in(room, 0, 5));
        int lost = 0;
        for (Thing thing : things) {
            if (thing.state == 1 && thing.room == room) {
                thing.state = 2;
                lost++;
            }
        }
        return lost;
    }

    public int turnUp(int find, int room) {
        Thing thing = thing(find);
        bounds(in(room, 0, 5));
        state(thing.state == 2);
        thing.putInto(room, day);
        return thing.keptHands().size();
    }

    public boolean hold(int find, boolean is) {
        Thing thing = thing(find);
        state(thing.isHere());
        boolean before = thing.isHeld;
        thing.isHeld = is;
        return before;
    }

    public int claim(int kind, int place, int from, int to, int words) {
        bounds(in(kind, 0, 7) && in(place, 0, 9));
        argument(in(from, 0, day) && in(to, from, day));
        Wish wish = new Wish();
        wish.words = set(words);
        state(wishes.size() < 20);
        wish.number = wishes.size();
        wish.kind = kind;
        wish.place = place;
        wish.from = from;
        wish.to = to;
        wishes.add(wish);
        return wish.number;
    }

    public int say(int claim, int words) {
        Wish wish = wish(claim);
        Set<Integer> more = set(words);
        state(stateOf(wish) == 0);
        wish.words.addAll(more);
        return wish.words.size();
    }

    public int tell(int claim, int words) {
        Wish wish = wish(claim);
        Set<Integer> more = set(words);
        state(stateOf(wish) == 0);
        wish.words.addAll(more);
        wish.told.addAll(more);
        return wish.told.size();
    }

    public int withdraw(int claim) {
        Wish wish = wish(claim);
        state(stateOf(wish) == 0);
        wish.state = 2;
        wish.endedOn = day;
        return day;
    }

    public int release(int find, int claim) {
        Thing thing = thing(find);
        Wish wish = wish(claim);
        state(thing.state == 0 && !thing.isHeld);
        state(isCandidate(thing, wish) && isProof(thing, wish) && best(thing) == wish);
        thing.state = 3;
        serve(wish, find);
        fees += 5;
        int reward = (thing.value * rates[thing.kind] - thing.value * rates[thing.kind] % 100) / 100;
        rewards += reward;
        return 5 + reward;
    }

    private void serve(Wish wish, int find) {
        wish.state = 1;
        wish.endedOn = day;
        wish.servedBy = find;
    }

    /** The claim that no other one beats: all that prove it are in order, since no two have the same number. */
    private Wish best(Thing thing) {
        List<Wish> proving = new ArrayList<>();
        for (Wish wish : wishes) if (stateOf(wish) == 0 && isProof(thing, wish)) proving.add(wish);
        proving.sort(Comparator.comparingInt((Wish wish) -> -score(thing, wish)).thenComparingInt(wish -> wish.number));
        return proving.isEmpty() ? null : proving.get(0);
    }

    public int extend(int find, int days) {
        Thing thing = thing(find);
        argument(in(days, 1, 365));
        state(thing.isHere() && thing.kind != 7);
        if (thing.lastDay < day + days) thing.lastDay = day + days;
        return thing.lastDay;
    }

    public int sell(int find, int price) {
        Thing thing = thing(find);
        argument(in(price, 1, 9999));
        state(isDue(find) && thing.kind != 7);
        thing.state = 4;
        thing.price = price;
        thing.soldOn = day;
        return money(2);
    }

    public int destroy(int find) {
        Thing thing = thing(find);
        state(isDue(find));
        thing.state = 5;
        return thing.room;
    }

    public int payOut(int find, int claim) {
        Thing thing = thing(find);
        Wish wish = wish(claim);
        state(thing.state == 4 && day <= thing.soldOn + 365);
        state(isCandidate(thing, wish) && isProof(thing, wish) && best(thing) == wish);
        thing.state = 6;
        serve(wish, find);
        fees += thing.price < 5 ? thing.price : 5;
        return thing.price < 5 ? 0 : thing.price - 5;
    }

    public int pass(int days) {
        argument(in(days, 1, 400));
        state(day + days <= 9999);
        for (Thing thing : things) if (thing.state == 1) thing.putInto(thing.room, day + 1);
        day += days;
        return day;
    }

    public int today() {
        return day;
    }

    private boolean isErased(Wish wish) {
        return wish.state != 0 && day >= wish.endedOn + 90;
    }

    private int stateOf(Wish wish) {
        return isErased(wish) ? 3 : wish.state;
    }

    private Set<Integer> wordsOf(Wish wish) {
        return isErased(wish) ? new TreeSet<>() : wish.words;
    }

    private Set<Integer> toldBy(Wish wish) {
        return isErased(wish) ? new TreeSet<>() : wish.told;
    }

    private boolean haveRoomInCommon(int place, int other) {
        for (int room = 0; room < 6; room++) if (isRoomOf(room, place) && isRoomOf(room, other)) return true;
        return false;
    }

    private boolean isRoomOf(int room, int place) {
        return place < 6 ? place == room : stops.get(place - 6).contains(room);
    }

    private int score(Thing thing, Wish wish) {
        int score;
        if (thing.kind == wish.kind) score = 40;
        else if (alike[thing.kind][wish.kind]) score = 15;
        else return -1;
        if (thing.place == wish.place) score += 20;
        else if (haveRoomInCommon(thing.place, wish.place)) score += 10;
        if (thing.foundOn >= wish.from) {
            int points = 20;
            for (int late = wish.to + 1; late <= thing.foundOn && points > 0; late++) points -= 2;
            score += points;
        }
        Set<Integer> known = new TreeSet<>(both(thing.hidden, toldBy(wish)));
        known.addAll(thing.words);
        for (int word : wordsOf(wish)) score += pointsOf(word, known);
        return score < 0 ? 0 : score;
    }

    private int pointsOf(int word, Set<Integer> known) {
        if (known.contains(word)) return 6;
        for (int other : known) if (near[word][other]) return 3;
        return -1;
    }

    private boolean isCandidate(Thing thing, Wish wish) {
        return stateOf(wish) == 0 && score(thing, wish) >= threshold;
    }

    private boolean isProof(Thing thing, Wish wish) {
        int right = both(toldBy(wish), thing.hidden).size();
        int others = toldBy(wish).size() - right;
        return (right >= 2 || right == thing.hidden.size()) && others <= 1;
    }

    private List<Integer> candidatesHere(Wish wish) {
        List<Integer> numbers = new ArrayList<>();
        for (int i = 0; i < things.size(); i++) {
            if (things.get(i).isHere() && isCandidate(things.get(i), wish)) numbers.add(i);
        }
        numbers.sort(Comparator.comparingInt((Integer i) -> -score(things.get(i), wish)).thenComparingInt(i -> i));
        return numbers;
    }

    public int fit(int find, int claim) {
        Thing thing = thing(find);
        return score(thing, wish(claim));
    }

    public int candidate(int claim, int place) {
        Wish wish = wish(claim);
        bounds(place >= 0);
        List<Integer> candidates = candidatesHere(wish);
        return place < candidates.size() ? candidates.get(place) : -1;
    }

    public int question(int claim) {
        Wish wish = wish(claim);
        List<Integer> candidates = candidatesHere(wish);
        int best = -1;
        double nearest = 1000;
        for (int word = 0; word < 24; word++) {
            int had = 0;
            for (int i : candidates) {
                if (things.get(i).words.contains(word) || things.get(i).hidden.contains(word)) had++;
            }
            double fromHalf = Math.abs(had - candidates.size() / 2.0);
            boolean tells = had > 0 && had < candidates.size() && !wordsOf(wish).contains(word);
            if (tells && fromHalf < nearest) {
                best = word;
                nearest = fromHalf;
            }
        }
        return best;
    }

    public boolean isProven(int find, int claim) {
        Thing thing = thing(find);
        return isProof(thing, wish(claim));
    }

    public boolean isDue(int find) {
        Thing thing = thing(find);
        for (Wish wish : wishes) if (isCandidate(thing, wish)) return false;
        return thing.state == 0 && day > thing.lastDay && !thing.isHeld;
    }

    public int ofFind(int find, int what) {
        Thing thing = thing(find);
        argument(in(what, 0, 4));
        return new int[] {thing.state, thing.room, thing.lastDay, bits(thing.words), thing.keptHands().size()}[what];
    }

    public int hand(int find, int place, boolean isDay) {
        List<int[]> hands = thing(find).keptHands();
        bounds(in(place, 0, hands.size() - 1));
        return hands.get(place)[isDay ? 1 : 0];
    }

    public int ofClaim(int claim, int what) {
        Wish wish = wish(claim);
        argument(in(what, 0, 3));
        return new int[] {stateOf(wish), bits(wordsOf(wish)), bits(toldBy(wish)), wish.servedBy}[what];
    }

    public int money(int what) {
        argument(in(what, 0, 2));
        int kept = 0;
        for (Thing thing : things) if (thing.state == 4) kept += thing.price;
        return new int[] {fees, rewards, kept}[what];
    }

    public int audit(int room) {
        bounds(in(room, 0, 5));
        int kept = 0;
        for (int i = 0; i < things.size(); i++) {
            if (things.get(i).state == 0 && things.get(i).room == room) kept += 1 << i;
        }
        return kept;
    }
}
