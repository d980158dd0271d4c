/** The range of each argument of each call: the last numbers that are taken on either side, and the first refused. */
public final class RangesTest {
    private static final Checks c = new Checks();

    public static void main(String[] args) {
        wordsKindsPlaces();
        find();
        ofFinds();
        findsThatThereAre();
        claim();
        ofClaims();
        claimsThatThereAre();
        terms();
        asking();
        c.end();
    }

    private static void wordsKindsPlaces() {
        c.promise("promise 2: word 0 to 23, other another one");
        c.boundsFrom("word", 0, 23, Lostroom::new, (r, word) -> r.near(word, 11));
        c.boundsFrom("other", 0, 23, Lostroom::new, (r, other) -> r.near(11, other));
        for (int word = 0; word < 24; word++) sameWord(word);
        c.promise("promise 3: kind 0 to 7, other another one");
        c.boundsFrom("kind", 0, 7, Lostroom::new, (r, kind) -> r.alike(kind, 3));
        c.boundsFrom("other", 0, 7, Lostroom::new, (r, other) -> r.alike(3, other));
        for (int kind = 0; kind < 8; kind++) sameKind(kind);
        c.promise("promise 4: kind 0 to 7, term 1 to 400, rate 0 to 50");
        c.boundsFrom("kind", 0, 7, Lostroom::new, (r, kind) -> r.rule(kind, 30, 10));
        c.argumentFrom("term", 1, 400, Lostroom::new, (r, term) -> r.rule(3, term, 10));
        c.argumentFrom("rate", 0, 50, Lostroom::new, (r, rate) -> r.rule(3, 30, rate));
        c.argumentFrom("term of one that perishes", 1, 400, Lostroom::new, (r, term) -> r.rule(7, term, 10));
        c.promise("promise 5: train 0 to 3, room 0 to 5");
        c.boundsFrom("train", 0, 3, Lostroom::new, (r, train) -> r.stop(train, 3));
        c.boundsFrom("room", 0, 5, Lostroom::new, (r, room) -> r.stop(2, room));
        c.promise("promise 6: score 1 to 200");
        c.argumentFrom("score", 1, 200, Rooms::withBoth, (r, score) -> r.threshold(score));
    }

    private static void sameWord(int word) {
        c.argument("near to itself: " + word, Lostroom::new, r -> r.near(word, word));
    }

    private static void sameKind(int kind) {
        c.argument("alike to itself: " + kind, Lostroom::new, r -> r.alike(kind, kind));
    }

    private static void find() {
        c.promise("promise 7: kind 0 to 7, place 0 to 9, room 0 to 5, daysAgo 0 to today, value 0 to 9999, sets");
        c.boundsFrom("kind", 0, 7, Rooms::withBoth, (r, kind) -> r.find(kind, 0, 0, 0, 0, 0, 0));
        c.boundsFrom("place", 0, 9, Rooms::withBoth, (r, place) -> r.find(0, place, 0, 0, 0, 0, 0));
        c.boundsFrom("room", 0, 5, Rooms::withBoth, (r, room) -> r.find(0, 0, 0, 0, 0, 0, room));
        c.argumentFrom("daysAgo", 0, 10, Rooms::withBoth, (r, days) -> r.find(0, 0, days, 0, 0, 0, 0));
        c.argumentFrom("daysAgo on the day 0", 0, 0, Lostroom::new, (r, days) -> r.find(0, 0, days, 0, 0, 0, 0));
        c.argumentFrom("daysAgo on the day 1", 0, 1, () -> Rooms.onDay(1), (r, days) -> r.find(0, 0, days, 0, 0, 0, 0));
        c.argumentFrom("daysAgo on the day 9999", 0, 9999, () -> Rooms.onDay(9999),
            (r, days) -> r.find(0, 0, days, 0, 0, 0, 0));
        c.argumentFrom("value", 0, 9999, Rooms::withBoth, (r, value) -> r.find(0, 0, 0, 0, 0, value, 0));
        c.words("words", Rooms::withBoth, (r, words) -> r.find(0, 0, 0, words, 0, 0, 0));
        c.words("secret", Rooms::withBoth, (r, words) -> r.find(0, 0, 0, 0, words, 0, 0));
        for (int word = 0; word < 24; word++) oneWordInCommon(1 << word);
        c.argument("all in common", Rooms::withBoth, r -> r.find(0, 0, 0, 0xFFFFFF, 0xFFFFFF, 0, 0));
        c.taken("all, but none in common", Rooms::withBoth, r -> r.find(0, 0, 0, 0xAAAAAA, 0x555555, 0, 0));
    }

    private static void oneWordInCommon(int word) {
        int others = 0xFFFFFF & ~word;
        int some = others & 0xF0F0F0;
        c.argument("in common " + word, Rooms::withBoth, r -> r.find(0, 0, 0, some | word, others & ~some | word, 0, 0));
    }

    private static Lostroom onTheWay() {
        Lostroom room = Rooms.withBoth();
        room.send(0, 3);
        return room;
    }

    private static Lostroom missing() {
        Lostroom room = onTheWay();
        room.lose(3);
        return room;
    }

    private static Lostroom withHiddenWords() {
        Lostroom room = Rooms.onDay(10);
        room.find(0, 0, 0, 0, 1 | 1 << 12 | 1 << 23, 0, 0);
        return room;
    }

    private static void ofFinds() {
        c.promise("promise 8: words a set without the hidden ones");
        c.words("words", Rooms::withBoth, (r, words) -> r.see(0, words));
        c.argument("the first word, hidden", RangesTest::withHiddenWords, r -> r.see(0, 1));
        c.argument("a hidden one among all", RangesTest::withHiddenWords, r -> r.see(0, 0xFFFFFF));
        c.argument("the last word, hidden", RangesTest::withHiddenWords, r -> r.see(0, 2 | 1 << 23));
        c.taken("all but the hidden ones", RangesTest::withHiddenWords, r -> r.see(0, 0x7FEFFE));
        c.promise("promise 9: room 0 to 5");
        c.boundsFrom("room", 0, 5, () -> Rooms.withFindThatIs(Lostroom.KEPT), (r, room) -> r.send(0, room));
        c.promise("promise 10: room 0 to 5");
        c.boundsFrom("room", 0, 5, RangesTest::onTheWay, (r, room) -> r.lose(room));
        c.promise("promise 11: room 0 to 5");
        c.boundsFrom("room", 0, 5, RangesTest::missing, (r, room) -> r.turnUp(0, room));
    }

    private static void findsThatThereAre() {
        c.promise("find: a find");
        for (int count = 1; count <= 30; count += count == 1 ? 1 : 28) findsFromZeroTo(count - 1);
        c.boundsFrom("release", 0, 0, Rooms::withBoth, (r, find) -> r.release(find, 0));
        c.boundsFrom("destroy", 0, 0, () -> Rooms.withFindThatIs(Lostroom.KEPT), (r, find) -> r.destroy(find));
        c.boundsFrom("sell", 0, 0, () -> Rooms.withFindThatIs(Lostroom.KEPT), (r, find) -> r.sell(find, 1));
        c.boundsFrom("payOut", 0, 0, RangesTest::soldWithOwner, (r, find) -> r.payOut(find, 0));
        c.boundsFrom("turnUp", 0, 0, RangesTest::missing, (r, find) -> r.turnUp(find, 2));
        c.boundsFrom("fit", 0, 0, Rooms::withBoth, (r, find) -> r.fit(find, 0));
        c.boundsFrom("isProven", 0, 0, Rooms::withBoth, (r, find) -> r.isProven(find, 0));
    }

    private static void findsFromZeroTo(int last) {
        Checks.Setup setup = () -> Rooms.withFinds(last + 1);
        c.boundsFrom("see of " + last, 0, last, setup, (r, find) -> r.see(find, 1));
        c.boundsFrom("send of " + last, 0, last, setup, (r, find) -> r.send(find, 1));
        c.boundsFrom("hold of " + last, 0, last, setup, (r, find) -> r.hold(find, true));
        c.boundsFrom("extend of " + last, 0, last, setup, (r, find) -> r.extend(find, 100));
        c.boundsFrom("isDue of " + last, 0, last, setup, (r, find) -> r.isDue(find));
        c.boundsFrom("ofFind of " + last, 0, last, setup, (r, find) -> r.ofFind(find, 0));
        c.boundsFrom("hand of " + last, 0, last, setup, (r, find) -> r.hand(find, 0, true));
        c.boundsFrom("hand of " + last, 0, last, setup, (r, find) -> r.hand(find, 0, false));
    }

    private static Lostroom soldWithOwner() {
        Lostroom room = Rooms.withFindThatIs(Lostroom.SOLD);
        Rooms.anOwner(room);
        return room;
    }

    private static void claim() {
        c.promise("promise 13: kind 0 to 7, place 0 to 9, from 0 to today, to from to today, words a set");
        c.boundsFrom("kind", 0, 7, Rooms::withBoth, (r, kind) -> r.claim(kind, 0, 0, 0, 0));
        c.boundsFrom("place", 0, 9, Rooms::withBoth, (r, place) -> r.claim(0, place, 0, 0, 0));
        c.argumentFrom("from", 0, 10, Rooms::withBoth, (r, from) -> r.claim(0, 0, from, 10, 0));
        c.argumentFrom("to", 4, 10, Rooms::withBoth, (r, to) -> r.claim(0, 0, 4, to, 0));
        c.argumentFrom("to from the first day", 0, 10, Rooms::withBoth, (r, to) -> r.claim(0, 0, 0, to, 0));
        c.argumentFrom("to from today", 10, 10, Rooms::withBoth, (r, to) -> r.claim(0, 0, 10, to, 0));
        c.argumentFrom("both on the day 0", 0, 0, Lostroom::new, (r, both) -> r.claim(0, 0, both, both, 0));
        c.argumentFrom("both on the day 9999", 0, 9999, () -> Rooms.onDay(9999), (r, both) -> r.claim(0, 0, both, both, 0));
        c.argument("from 11 to today", Rooms::withBoth, r -> r.claim(0, 0, 11, 10, 0));
        c.words("words", Rooms::withBoth, (r, words) -> r.claim(0, 0, 0, 0, words));
    }

    private static void ofClaims() {
        c.promise("promise 14: words a set");
        c.words("words", Rooms::withBoth, (r, words) -> r.say(0, words));
        c.promise("promise 15: words a set");
        c.words("words", Rooms::withBoth, (r, words) -> r.tell(0, words));
    }

    private static void claimsThatThereAre() {
        c.promise("claim: a claim");
        claimsFromZeroTo(0);
        claimsFromZeroTo(1);
        claimsFromZeroTo(19);
        c.boundsFrom("release", 0, 0, Rooms::withBoth, (r, claim) -> r.release(0, claim));
        c.boundsFrom("payOut", 0, 0, RangesTest::soldWithOwner, (r, claim) -> r.payOut(0, claim));
        c.boundsFrom("fit", 0, 0, Rooms::withBoth, (r, claim) -> r.fit(0, claim));
        c.boundsFrom("isProven", 0, 0, Rooms::withBoth, (r, claim) -> r.isProven(0, claim));
    }

    private static void claimsFromZeroTo(int last) {
        Checks.Setup setup = () -> Rooms.withClaims(last + 1);
        c.boundsFrom("say of " + last, 0, last, setup, (r, claim) -> r.say(claim, 1));
        c.boundsFrom("tell of " + last, 0, last, setup, (r, claim) -> r.tell(claim, 1));
        c.boundsFrom("withdraw of " + last, 0, last, setup, (r, claim) -> r.withdraw(claim));
        c.boundsFrom("candidate of " + last, 0, last, setup, (r, claim) -> r.candidate(claim, 0));
        c.boundsFrom("question of " + last, 0, last, setup, (r, claim) -> r.question(claim));
        c.boundsFrom("ofClaim of " + last, 0, last, setup, (r, claim) -> r.ofClaim(claim, 0));
    }

    private static void terms() {
        c.promise("promise 18: days 1 to 365");
        c.argumentFrom("days", 1, 365, Rooms::withBoth, (r, days) -> r.extend(0, days));
        c.promise("promise 19: price 1 to 9999");
        c.argumentFrom("price", 1, 9999, () -> Rooms.withFindThatIs(Lostroom.KEPT), (r, price) -> r.sell(0, price));
        c.promise("promise 22: days 1 to 400");
        c.argumentFrom("days", 1, 400, RangesTest::onTheWay, (r, days) -> r.pass(days));
    }

    private static void asking() {
        c.promise("promise 25: place is not below 0");
        c.bounds("place -1", Rooms::withBoth, r -> r.candidate(0, -1));
        c.bounds("the lowest place", Rooms::withBoth, r -> r.candidate(0, Integer.MIN_VALUE));
        c.taken("place 0", Rooms::withBoth, r -> r.candidate(0, 0));
        c.taken("the highest place", Rooms::withBoth, r -> r.candidate(0, Integer.MAX_VALUE));
        c.promise("promise 29: what 0 to 4");
        c.argumentFrom("what", 0, 4, Rooms::withBoth, (r, what) -> r.ofFind(0, what));
        c.promise("promise 30: place 0 for the first hand that is kept");
        c.boundsFrom("place of the only one", 0, 0, Rooms::withBoth, (r, place) -> r.hand(0, place, true));
        c.boundsFrom("place of the only one", 0, 0, Rooms::withBoth, (r, place) -> r.hand(0, place, false));
        for (int hands = 2; hands <= 14; hands++) placesOf(hands);
        c.promise("promise 31: what 0 to 3");
        c.argumentFrom("what", 0, 3, Rooms::withBoth, (r, what) -> r.ofClaim(0, what));
        c.promise("promise 32: what 0 to 2");
        c.argumentFrom("what", 0, 2, Rooms::withBoth, (r, what) -> r.money(what));
        c.promise("promise 33: room 0 to 5");
        c.boundsFrom("room", 0, 5, Rooms::withBoth, (r, room) -> r.audit(room));
    }

    private static void placesOf(int hands) {
        Checks.Setup setup = () -> withHands(hands);
        int last = Math.min(hands, 12) - 1;
        c.boundsFrom("place of " + hands, 0, last, setup, (r, place) -> r.hand(0, place, true));
        c.boundsFrom("place of " + hands, 0, last, setup, (r, place) -> r.hand(0, place, false));
    }

    private static Lostroom withHands(int hands) {
        Lostroom room = Rooms.withFinds(1);
        for (int i = 1; i < hands; i++) {
            room.send(0, i % 2);
            room.pass(1);
        }
        return room;
    }
}
