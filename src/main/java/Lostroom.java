/** The lost things of a railway; what each call promises is told in ../shared/DOC.md. */
public final class Lostroom {
    public static final int NONE = -1;
    public static final int KEPT = 0, ON_THE_WAY = 1, MISSING = 2, RELEASED = 3, SOLD = 4, DESTROYED = 5, PAID_OUT = 6;
    public static final int OPEN = 0, SERVED = 1, CLOSED = 2, ERASED = 3;

    private static final int WORDS = 24, KINDS = 8, ROOMS = 6, TRAINS = 4, PLACES = ROOMS + TRAINS;
    private static final int ALL_WORDS = (1 << WORDS) - 1;
    private static final int MOST_FINDS = 30, MOST_CLAIMS = 20, MOST_HANDS = 12;
    private static final int FINAL_DAY = 9999, MOST_MONEY = 9999;
    private static final int PERISHING_KIND = 7, PERISHING_TERM = 1;
    private static final int FIRST_TERM = 60, LONGEST_TERM = 400, HIGHEST_RATE = 50, LONGEST_EXTENSION = 365;
    private static final int FIRST_THRESHOLD = 50, HIGHEST_THRESHOLD = 200;
    private static final int MOST_DAYS_PASSED = 400, DAYS_UNTIL_ERASED = 90, DAYS_OF_PAYING_OUT = 365;
    private static final int FEE = 5, HUNDREDTHS = 100;
    private static final int SAME_KIND = 40, ALIKE_KIND = 15;
    private static final int SAME_PLACE = 20, ROOM_IN_COMMON = 10;
    private static final int DAY_FITS = 20, EACH_DAY_BEHIND = 2;
    private static final int WORD_FITS = 6, WORD_IS_NEAR = 3, WORD_FAILS = 1;
    private static final int WORDS_OF_PROOF = 2, OTHER_WORDS_IN_PROOF = 1;

    // A word, a kind or a train is an index here; what it is near to, alike to or stops at is a set of bits.
    private final int[] nearWords = new int[WORDS];
    private final int[] alikeKinds = new int[KINDS];
    private final int[] stops = new int[TRAINS];
    private final int[] terms = new int[KINDS];
    private final int[] rates = new int[KINDS];
    private final Found[] finds = new Found[MOST_FINDS];
    private final Claim[] claims = new Claim[MOST_CLAIMS];
    // Kept to be used again by each call that ranks or counts candidates, so that none makes a row of its own.
    private final int[] scores = new int[MOST_FINDS];
    private int findCount = 0;
    private int claimCount = 0;
    private int day = 0;
    private int leastScore = FIRST_THRESHOLD;
    private int fees = 0;
    private int rewards = 0;
    private int proceeds = 0;

    private static final class Found {
        final int kind;
        final int place;
        final int day;
        final int secret;
        final int value;
        final int[] handRooms = new int[MOST_HANDS];
        final int[] handDays = new int[MOST_HANDS];
        int hands = 0;
        int words;
        int state = KEPT;
        // Where it goes or went while it is not KEPT, since that is what is asked of it then.
        int room = NONE;
        int lastDay = 0;
        boolean isHeld = false;
        int price = 0;
        int soldOn = 0;

        Found(int kind, int place, int day, int words, int secret, int value) {
            this.kind = kind;
            this.place = place;
            this.day = day;
            this.words = words;
            this.secret = secret;
            this.value = value;
        }

        boolean isHere() {
            return state == KEPT || state == ON_THE_WAY || state == MISSING;
        }

        void comeTo(int newRoom, int onDay) {
            state = KEPT;
            room = newRoom;
            if (hands >= MOST_HANDS) dropSecondHand();
            if (hands >= 0 && hands < handRooms.length && hands < handDays.length) {
                handRooms[hands] = newRoom;
                handDays[hands] = onDay;
                hands++;
            }
        }

        // The first hand stays for good, so the oldest of the others makes room for the newest.
        private void dropSecondHand() {
            for (int i = 2; i < handRooms.length && i < handDays.length; i++) {
                handRooms[i - 1] = handRooms[i];
                handDays[i - 1] = handDays[i];
            }
            hands = MOST_HANDS - 1;
        }
    }

    private static final class Claim {
        final int number;
        final int kind;
        final int place;
        final int from;
        final int to;
        int words;
        int told = 0;
        int state = OPEN;
        int servedBy = NONE;
        int endedOn = 0;

        Claim(int number, int kind, int place, int from, int to, int words) {
            this.number = number;
            this.kind = kind;
            this.place = place;
            this.from = from;
            this.to = to;
            this.words = words;
        }

        boolean proves(Found found) {
            int needed = Math.min(WORDS_OF_PROOF, Integer.bitCount(found.secret));
            return Integer.bitCount(told & found.secret) >= needed
                && Integer.bitCount(told & ~found.secret) <= OTHER_WORDS_IN_PROOF;
        }

        void end(int newState, int onDay) {
            state = newState;
            endedOn = onDay;
        }

        void eraseIfOld(int today) {
            boolean hasEnded = state == SERVED || state == CLOSED;
            if (hasEnded && today - endedOn >= DAYS_UNTIL_ERASED) {
                state = ERASED;
                words = 0;
                told = 0;
            }
        }
    }

    public Lostroom() {
        for (int i = 0; i < terms.length; i++) terms[i] = FIRST_TERM;
    }

    // ---- words, kinds, places

    public boolean near(int word, int other) throws IndexOutOfBoundsException, IllegalArgumentException {
        return turned(nearWords, word, other);
    }

    public boolean alike(int kind, int other) throws IndexOutOfBoundsException, IllegalArgumentException {
        return turned(alikeKinds, kind, other);
    }

    public int rule(int kind, int term, int rate) throws IndexOutOfBoundsException, IllegalArgumentException {
        if (kind < 0 || kind >= terms.length || kind >= rates.length) throw new IndexOutOfBoundsException("no such kind");
        if (!isWithin(term, 1, LONGEST_TERM)) throw new IllegalArgumentException("term out of range");
        if (!isWithin(rate, 0, HIGHEST_RATE)) throw new IllegalArgumentException("rate out of range");
        int before = terms[kind];
        terms[kind] = term;
        rates[kind] = rate;
        return before;
    }

    public int stop(int train, int room) throws IndexOutOfBoundsException, IllegalStateException {
        if (train < 0 || train >= stops.length) throw new IndexOutOfBoundsException("no such train");
        requireRoom(room);
        int bit = 1 << room;
        if ((stops[train] & bit) != 0) throw new IllegalStateException("it stops there already");
        stops[train] |= bit;
        return Integer.bitCount(stops[train]);
    }

    public int threshold(int score) throws IllegalArgumentException {
        if (!isWithin(score, 1, HIGHEST_THRESHOLD)) throw new IllegalArgumentException("score out of range");
        int before = leastScore;
        leastScore = score;
        return before;
    }

    // ---- finds

    public int find(int kind, int place, int daysAgo, int words, int secret, int value, int room)
            throws IndexOutOfBoundsException, IllegalArgumentException, IllegalStateException {
        requireKind(kind);
        requirePlace(place);
        requireRoom(room);
        if (!isWithin(daysAgo, 0, day)) throw new IllegalArgumentException("daysAgo out of range");
        if (!isWithin(value, 0, MOST_MONEY)) throw new IllegalArgumentException("value out of range");
        requireWords(words);
        requireWords(secret);
        if ((words & secret) != 0) throw new IllegalArgumentException("a word is hidden and not");
        int number = findCount;
        if (number < 0 || number >= finds.length) throw new IllegalStateException("no more finds");
        Found found = new Found(kind, place, day - daysAgo, words, secret, value);
        found.lastDay = day + termOf(kind);
        found.comeTo(room, day);
        finds[number] = found;
        findCount = number + 1;
        return number;
    }

    public int see(int find, int words) throws IndexOutOfBoundsException, IllegalArgumentException, IllegalStateException {
        Found found = foundAt(find);
        requireWords(words);
        if ((words & found.secret) != 0) throw new IllegalArgumentException("a hidden word");
        if (found.state != KEPT) throw new IllegalStateException("not kept");
        found.words |= words;
        return Integer.bitCount(found.words);
    }

    public int send(int find, int room) throws IndexOutOfBoundsException, IllegalStateException {
        Found found = foundAt(find);
        requireRoom(room);
        if (found.state != KEPT) throw new IllegalStateException("not kept");
        if (found.room == room) throw new IllegalStateException("it is there");
        int before = found.room;
        found.state = ON_THE_WAY;
        found.room = room;
        return before;
    }

    public int lose(int room) throws IndexOutOfBoundsException {
        requireRoom(room);
        int lost = 0;
        for (Found found : finds) {
            if (found != null && found.state == ON_THE_WAY && found.room == room) {
                found.state = MISSING;
                lost++;
            }
        }
        return lost;
    }

    public int turnUp(int find, int room) throws IndexOutOfBoundsException, IllegalStateException {
        Found found = foundAt(find);
        requireRoom(room);
        if (found.state != MISSING) throw new IllegalStateException("not missing");
        found.comeTo(room, day);
        return found.hands;
    }

    public boolean hold(int find, boolean is) throws IndexOutOfBoundsException, IllegalStateException {
        Found found = foundAt(find);
        if (!found.isHere()) throw new IllegalStateException("not here");
        boolean before = found.isHeld;
        found.isHeld = is;
        return before;
    }

    // ---- claims

    public int claim(int kind, int place, int from, int to, int words)
            throws IndexOutOfBoundsException, IllegalArgumentException, IllegalStateException {
        requireKind(kind);
        requirePlace(place);
        if (!isWithin(from, 0, day)) throw new IllegalArgumentException("from out of range");
        if (!isWithin(to, from, day)) throw new IllegalArgumentException("to out of range");
        requireWords(words);
        int number = claimCount;
        if (number < 0 || number >= claims.length) throw new IllegalStateException("no more claims");
        claims[number] = new Claim(number, kind, place, from, to, words);
        claimCount = number + 1;
        return number;
    }

    public int say(int claim, int words) throws IndexOutOfBoundsException, IllegalArgumentException, IllegalStateException {
        Claim said = claimAt(claim);
        requireWords(words);
        requireOpen(said);
        said.words |= words;
        return Integer.bitCount(said.words);
    }

    public int tell(int claim, int words) throws IndexOutOfBoundsException, IllegalArgumentException, IllegalStateException {
        Claim told = claimAt(claim);
        requireWords(words);
        requireOpen(told);
        told.words |= words;
        told.told |= words;
        return Integer.bitCount(told.told);
    }

    public int withdraw(int claim) throws IndexOutOfBoundsException, IllegalStateException {
        Claim withdrawn = claimAt(claim);
        requireOpen(withdrawn);
        withdrawn.end(CLOSED, day);
        return day;
    }

    public int release(int find, int claim) throws IndexOutOfBoundsException, IllegalStateException {
        Found found = foundAt(find);
        Claim owner = claimAt(claim);
        if (found.state != KEPT || found.isHeld) throw new IllegalStateException("not to be given away");
        requireEntitled(found, owner);
        int reward = found.value * rateOf(found.kind) / HUNDREDTHS;
        found.state = RELEASED;
        owner.end(SERVED, day);
        owner.servedBy = find;
        fees += FEE;
        rewards += reward;
        return FEE + reward;
    }

    // ---- terms

    public int extend(int find, int days) throws IndexOutOfBoundsException, IllegalArgumentException, IllegalStateException {
        Found found = foundAt(find);
        if (!isWithin(days, 1, LONGEST_EXTENSION)) throw new IllegalArgumentException("days out of range");
        if (!found.isHere() || found.kind == PERISHING_KIND) throw new IllegalStateException("no term to extend");
        found.lastDay = Math.max(found.lastDay, day + days);
        return found.lastDay;
    }

    public int sell(int find, int price) throws IndexOutOfBoundsException, IllegalArgumentException, IllegalStateException {
        Found found = foundAt(find);
        if (!isWithin(price, 1, MOST_MONEY)) throw new IllegalArgumentException("price out of range");
        if (!isOver(found) || found.kind == PERISHING_KIND) throw new IllegalStateException("not for sale");
        found.state = SOLD;
        found.price = price;
        found.soldOn = day;
        proceeds += price;
        return proceeds;
    }

    public int destroy(int find) throws IndexOutOfBoundsException, IllegalStateException {
        Found found = foundAt(find);
        if (!isOver(found)) throw new IllegalStateException("its term is not over");
        found.state = DESTROYED;
        return found.room;
    }

    public int payOut(int find, int claim) throws IndexOutOfBoundsException, IllegalStateException {
        Found found = foundAt(find);
        Claim owner = claimAt(claim);
        if (found.state != SOLD) throw new IllegalStateException("not sold");
        if (day - found.soldOn > DAYS_OF_PAYING_OUT) throw new IllegalStateException("sold too long ago");
        requireEntitled(found, owner);
        int fee = Math.min(FEE, found.price);
        found.state = PAID_OUT;
        owner.end(SERVED, day);
        owner.servedBy = find;
        fees += fee;
        proceeds -= found.price;
        return found.price - fee;
    }

    public int pass(int days) throws IllegalArgumentException, IllegalStateException {
        if (!isWithin(days, 1, MOST_DAYS_PASSED)) throw new IllegalArgumentException("days out of range");
        if (day + days > FINAL_DAY) throw new IllegalStateException("beyond the last day");
        for (int i = 0; i < days; i++) {
            day++;
            bringBags();
            eraseOldClaims();
        }
        return day;
    }

    // ---- asking

    public int today() {
        return day;
    }

    public int fit(int find, int claim) throws IndexOutOfBoundsException {
        Found found = foundAt(find);
        return scoreOf(found, claimAt(claim));
    }

    public int candidate(int claim, int place) throws IndexOutOfBoundsException {
        Claim asked = claimAt(claim);
        if (place < 0) throw new IndexOutOfBoundsException("no such place");
        noteScores(asked);
        for (int i = 0; i < scores.length; i++) {
            if (scores[i] != NONE && countBetter(i) == place) return i;
        }
        return NONE;
    }

    public int question(int claim) throws IndexOutOfBoundsException {
        Claim asked = claimAt(claim);
        int candidates = noteScores(asked);
        int best = NONE;
        // A word that all of them have, or none, is as far from half as all of them; so only one that tells is nearer.
        int bestFromHalf = candidates;
        for (int word = 0; word < WORDS; word++) {
            if ((asked.words & (1 << word)) == 0) {
                int fromHalf = Math.abs(2 * countNotedWith(word) - candidates);
                if (fromHalf < bestFromHalf) {
                    best = word;
                    bestFromHalf = fromHalf;
                }
            }
        }
        return best;
    }

    public boolean isProven(int find, int claim) throws IndexOutOfBoundsException {
        Found found = foundAt(find);
        return claimAt(claim).proves(found);
    }

    public boolean isDue(int find) throws IndexOutOfBoundsException {
        return isOver(foundAt(find));
    }

    public int ofFind(int find, int what) throws IndexOutOfBoundsException, IllegalArgumentException {
        Found found = foundAt(find);
        switch (what) {
            case 0: return found.state;
            case 1: return found.room;
            case 2: return found.lastDay;
            case 3: return found.words;
            case 4: return found.hands;
            default: throw new IllegalArgumentException("what out of range");
        }
    }

    public int hand(int find, int place, boolean isDay) throws IndexOutOfBoundsException {
        Found found = foundAt(find);
        if (place < 0 || place >= found.hands || place >= found.handDays.length || place >= found.handRooms.length) {
            throw new IndexOutOfBoundsException("no such hand");
        }
        return isDay ? found.handDays[place] : found.handRooms[place];
    }

    public int ofClaim(int claim, int what) throws IndexOutOfBoundsException, IllegalArgumentException {
        Claim asked = claimAt(claim);
        switch (what) {
            case 0: return asked.state;
            case 1: return asked.words;
            case 2: return asked.told;
            case 3: return asked.servedBy;
            default: throw new IllegalArgumentException("what out of range");
        }
    }

    public int money(int what) throws IllegalArgumentException {
        switch (what) {
            case 0: return fees;
            case 1: return rewards;
            case 2: return proceeds;
            default: throw new IllegalArgumentException("what out of range");
        }
    }

    public int audit(int room) throws IndexOutOfBoundsException {
        requireRoom(room);
        int kept = 0;
        for (int i = 0; i < finds.length; i++) {
            Found found = finds[i];
            if (found != null && found.state == KEPT && found.room == room) kept |= 1 << i;
        }
        return kept;
    }

    // ---- what arguments have to be

    private static boolean isWithin(int number, int least, int most) {
        return number >= least && number <= most;
    }

    private static void requireKind(int kind) {
        if (!isWithin(kind, 0, KINDS - 1)) throw new IndexOutOfBoundsException("no such kind");
    }

    private static void requirePlace(int place) {
        if (!isWithin(place, 0, PLACES - 1)) throw new IndexOutOfBoundsException("no such place");
    }

    private static void requireRoom(int room) {
        if (!isWithin(room, 0, ROOMS - 1)) throw new IndexOutOfBoundsException("no such room");
    }

    private static void requireWords(int words) {
        if (!isWithin(words, 0, ALL_WORDS)) throw new IllegalArgumentException("no set of words");
    }

    private static void requireOpen(Claim claim) {
        if (claim.state != OPEN) throw new IllegalStateException("not open");
    }

    private void requireEntitled(Found found, Claim claim) {
        if (!isCandidate(found, claim)) throw new IllegalStateException("no candidate");
        if (!claim.proves(found)) throw new IllegalStateException("not proven");
        if (isBeaten(found, claim)) throw new IllegalStateException("beaten by another claim");
    }

    private Found foundAt(int number) {
        if (number < 0 || number >= finds.length) throw new IndexOutOfBoundsException("no such find");
        Found found = finds[number];
        if (found == null) throw new IndexOutOfBoundsException("no such find");
        return found;
    }

    private Claim claimAt(int number) {
        if (number < 0 || number >= claims.length) throw new IndexOutOfBoundsException("no such claim");
        Claim claim = claims[number];
        if (claim == null) throw new IndexOutOfBoundsException("no such claim");
        return claim;
    }

    // ---- words, kinds and rooms that belong together

    private static boolean turned(int[] relation, int one, int other) {
        if (one < 0 || one >= relation.length || other < 0 || other >= relation.length) {
            throw new IndexOutOfBoundsException("no such word or kind");
        }
        if (one == other) throw new IllegalArgumentException("both are the same");
        relation[one] ^= 1 << other;
        relation[other] ^= 1 << one;
        return (relation[one] & (1 << other)) != 0;
    }

    private boolean areAlike(int kind, int other) {
        return kind >= 0 && kind < alikeKinds.length && (alikeKinds[kind] & (1 << other)) != 0;
    }

    private int wordsNear(int words) {
        int near = 0;
        for (int word = 0; word < nearWords.length; word++) {
            if ((words & (1 << word)) != 0) near |= nearWords[word];
        }
        return near;
    }

    private int roomsOf(int place) {
        if (place < ROOMS) return 1 << place;
        int train = place - ROOMS;
        return train >= 0 && train < stops.length ? stops[train] : 0;
    }

    private int termOf(int kind) {
        if (kind == PERISHING_KIND) return PERISHING_TERM;
        return kind >= 0 && kind < terms.length ? terms[kind] : FIRST_TERM;
    }

    private int rateOf(int kind) {
        return kind >= 0 && kind < rates.length ? rates[kind] : 0;
    }

    // ---- scores

    private int scoreOf(Found found, Claim claim) {
        int forKind = scoreOfKinds(found.kind, claim.kind);
        if (forKind == NONE) return NONE;
        int forPlace = scoreOfPlaces(found.place, claim.place);
        int forDay = scoreOfDay(found.day, claim.from, claim.to);
        return Math.max(0, forKind + forPlace + forDay + scoreOfWords(found, claim));
    }

    private int scoreOfKinds(int kind, int other) {
        if (kind == other) return SAME_KIND;
        return areAlike(kind, other) ? ALIKE_KIND : NONE;
    }

    private int scoreOfPlaces(int place, int other) {
        if (place == other) return SAME_PLACE;
        return (roomsOf(place) & roomsOf(other)) != 0 ? ROOM_IN_COMMON : 0;
    }

    private static int scoreOfDay(int foundOn, int from, int to) {
        if (foundOn < from) return 0;
        int daysBehind = Math.max(0, foundOn - to);
        return Math.max(0, DAY_FITS - EACH_DAY_BEHIND * daysBehind);
    }

    private int scoreOfWords(Found found, Claim claim) {
        // A hidden word counts only for who tells it as a proof, or scores would give away what is hidden.
        int known = found.words | (found.secret & claim.told);
        int fitting = claim.words & known;
        int others = claim.words & ~known;
        int close = others & wordsNear(known);
        int failing = others & ~close;
        return WORD_FITS * Integer.bitCount(fitting) + WORD_IS_NEAR * Integer.bitCount(close)
            - WORD_FAILS * Integer.bitCount(failing);
    }

    // ---- candidates

    private boolean isCandidate(Found found, Claim claim) {
        return claim.state == OPEN && scoreOf(found, claim) >= leastScore;
    }

    private boolean isCandidateOfAny(Found found) {
        for (Claim claim : claims) {
            if (claim != null && isCandidate(found, claim)) return true;
        }
        return false;
    }

    private boolean isOver(Found found) {
        return found.state == KEPT && day > found.lastDay && !found.isHeld && !isCandidateOfAny(found);
    }

    private boolean isBeaten(Found found, Claim claim) {
        int own = scoreOf(found, claim);
        for (Claim other : claims) {
            boolean isRival = other != null && other.number != claim.number && other.state == OPEN;
            if (isRival && other.proves(found)) {
                int score = scoreOf(found, other);
                if (score > own || (score == own && other.number < claim.number)) return true;
            }
        }
        return false;
    }

    // Notes NONE for what is no candidate or not here, and returns how many are candidates and here.
    private int noteScores(Claim claim) {
        int noted = 0;
        for (int i = 0; i < scores.length && i < finds.length; i++) {
            Found found = finds[i];
            boolean isNoted = found != null && found.isHere() && isCandidate(found, claim);
            scores[i] = isNoted ? scoreOf(found, claim) : NONE;
            if (isNoted) noted++;
        }
        return noted;
    }

    private int countBetter(int find) {
        if (find < 0 || find >= scores.length) return 0;
        int own = scores[find];
        int better = 0;
        for (int i = 0; i < scores.length; i++) {
            if (scores[i] > own || (scores[i] == own && i < find)) better++;
        }
        return better;
    }

    private int countNotedWith(int word) {
        int count = 0;
        for (int i = 0; i < scores.length && i < finds.length; i++) {
            Found found = finds[i];
            if (found != null && scores[i] != NONE && ((found.words | found.secret) & (1 << word)) != 0) count++;
        }
        return count;
    }

    // ---- what a day brings

    private void bringBags() {
        for (Found found : finds) {
            if (found != null && found.state == ON_THE_WAY) found.comeTo(found.room, day);
        }
    }

    private void eraseOldClaims() {
        for (Claim claim : claims) {
            if (claim != null) claim.eraseIfOld(day);
        }
    }
}
