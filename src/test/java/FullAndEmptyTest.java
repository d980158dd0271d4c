/** What there is none of, and what there can be no more of: finds, claims, hands, words, stops, pairs, candidates. */
public final class FullAndEmptyTest {
    private static final Checks c = new Checks();

    public static void main(String[] args) {
        noFindsAndClaims();
        onlyFindsOrOnlyClaims();
        atFirst();
        allPairs();
        allStops();
        thirtyFinds();
        twentyClaims();
        hands();
        handsOfWhatTurnsUp();
        wordsOfFinds();
        wordsOfClaims();
        bags();
        rooms();
        candidates();
        c.end();
    }

    private static void noFindsAndClaims() {
        c.promise("promise 1: no finds and claims");
        for (int number : new int[] {0, 1, 29, 30}) noFind(number);
        for (int number : new int[] {0, 1, 19, 20}) noClaim(number);
        Lostroom room = new Lostroom();
        c.is("the day", 0, room.today());
        for (int what = 0; what < 3; what++) c.is("money", 0, room.money(what));
        for (int i = 0; i < 6; i++) c.is("in a room", 0, room.audit(i));
        for (int i = 0; i < 6; i++) c.is("lost on the way to a room", 0, room.lose(i));
        c.is("the first find", 0, room.find(0, 0, 0, 0, 0, 0, 0));
        c.is("the first claim", 0, room.claim(0, 0, 0, 0, 0));
    }

    private static void noFind(int find) {
        c.bounds("see " + find, Lostroom::new, r -> r.see(find, 0));
        c.bounds("send " + find, Lostroom::new, r -> r.send(find, 0));
        c.bounds("turnUp " + find, Lostroom::new, r -> r.turnUp(find, 0));
        c.bounds("hold " + find, Lostroom::new, r -> r.hold(find, false));
        c.bounds("extend " + find, Lostroom::new, r -> r.extend(find, 1));
        c.bounds("sell " + find, Lostroom::new, r -> r.sell(find, 1));
        c.bounds("destroy " + find, Lostroom::new, r -> r.destroy(find));
        c.bounds("isDue " + find, Lostroom::new, r -> r.isDue(find));
        c.bounds("ofFind " + find, Lostroom::new, r -> r.ofFind(find, 0));
        c.bounds("hand " + find, Lostroom::new, r -> r.hand(find, 0, true));
    }

    private static void noClaim(int claim) {
        c.bounds("say " + claim, Lostroom::new, r -> r.say(claim, 0));
        c.bounds("tell " + claim, Lostroom::new, r -> r.tell(claim, 0));
        c.bounds("withdraw " + claim, Lostroom::new, r -> r.withdraw(claim));
        c.bounds("candidate " + claim, Lostroom::new, r -> r.candidate(claim, 0));
        c.bounds("question " + claim, Lostroom::new, r -> r.question(claim));
        c.bounds("ofClaim " + claim, Lostroom::new, r -> r.ofClaim(claim, 0));
    }

    private static void onlyFindsOrOnlyClaims() {
        Checks.Setup[] setups = {Lostroom::new, () -> Rooms.withFinds(1), () -> Rooms.withClaims(1)};
        for (Checks.Setup setup : setups) {
            c.promise("no such find or claim");
            c.bounds("release", setup, r -> r.release(0, 0));
            c.bounds("payOut", setup, r -> r.payOut(0, 0));
            c.bounds("fit", setup, r -> r.fit(0, 0));
            c.bounds("isProven", setup, r -> r.isProven(0, 0));
        }
        Lostroom room = Rooms.withClaims(1);
        c.is("no finds, no candidate", Lostroom.NONE, room.candidate(0, 0));
        c.is("no finds, no question", Lostroom.NONE, room.question(0));
    }

    private static void atFirst() {
        c.promise("a kind has a term, 60 days at first, and a reward, 0 at first");
        for (int kind = 0; kind < 8; kind++) {
            Lostroom room = new Lostroom();
            room.find(kind, 0, 0, 0, 0, 9999, 0);
            c.is("the last day of the kind " + kind, kind == 7 ? 1 : 60, room.ofFind(0, 2));
            room.claim(kind, 0, 0, 0, 0);
            c.is("no reward of the kind " + kind, 5, room.release(0, 0));
            c.is("the term of the kind " + kind, 60, room.rule(kind, 400, 50));
            c.is("the term told before", 400, room.rule(kind, 1, 0));
        }
        c.promise("the threshold, 50 at first");
        c.is("the one before", 50, new Lostroom().threshold(200));
    }

    private static void allPairs() {
        c.promise("promise 2: tells that they are near, or, if they are, that they are not");
        Lostroom room = new Lostroom();
        for (int word = 0; word < 24; word++) {
            for (int other = 0; other < word; other++) c.is("none is near at first", true, room.near(word, other));
        }
        room.find(0, 0, 0, 1 << 23, 0, 0, 0);
        room.claim(0, 0, 0, 0, 0x7FFFFF);
        c.is("then all are", 80 + 23 * 3, room.fit(0, 0));
        for (int word = 0; word < 20; word++) {
            for (int other = 0; other < word; other++) c.is("told again, none is", false, room.near(other, word));
        }
        c.is("those of the last words still are", 80 + 23 * 3, room.fit(0, 0));
        c.promise("promise 3: tells that they are alike, or, if they are, that they are not");
        Lostroom kinds = new Lostroom();
        for (int kind = 0; kind < 8; kind++) {
            for (int other = 0; other < kind; other++) c.is("none is alike at first", true, kinds.alike(kind, other));
        }
        for (int kind = 0; kind < 8; kind++) kinds.find(kind, 0, 0, 0, 0, 0, 0);
        for (int kind = 0; kind < 8; kind++) kinds.claim(kind, 0, 0, 0, 0);
        for (int i = 0; i < 64; i++) c.is("then all are", i / 8 == i % 8 ? 80 : 55, kinds.fit(i / 8, i % 8));
        for (int kind = 0; kind < 8; kind++) {
            for (int other = 0; other < kind; other++) c.is("told again, none is", false, kinds.alike(other, kind));
        }
        for (int i = 0; i < 64; i++) c.is("none is", i / 8 == i % 8 ? 80 : Lostroom.NONE, kinds.fit(i / 8, i % 8));
    }

    private static void allStops() {
        c.promise("promise 5: how many it has then");
        Lostroom room = new Lostroom();
        for (int train = 3; train >= 0; train--) {
            for (int i = 5; i >= 0; i--) c.is("stops of the train " + train, 6 - i, room.stop(train, i));
        }
        for (int i = 0; i < 24; i++) {
            int stop = i;
            c.state("it stops there already", FullAndEmptyTest::withAllStops, r -> r.stop(stop / 6, stop % 6));
        }
    }

    private static Lostroom withAllStops() {
        Lostroom room = new Lostroom();
        for (int i = 0; i < 24; i++) room.stop(i / 6, i % 6);
        return room;
    }

    private static Lostroom withDestroyedFinds() {
        Lostroom room = new Lostroom();
        for (int i = 0; i < 30; i++) room.find(7, 0, 0, 0, 0, 0, 0);
        room.pass(2);
        for (int i = 0; i < 30; i++) room.destroy(i);
        return room;
    }

    private static void thirtyFinds() {
        c.promise("finds are numbered from 0, at most 30");
        Lostroom room = new Lostroom();
        for (int i = 0; i < 30; i++) c.is("the number", i, room.find(i % 8, i % 10, 0, i, 0, i, i % 6));
        for (int i = 0; i < 30; i++) c.is("the words of " + i, i, room.ofFind(i, 3));
        for (int i = 0; i < 30; i++) c.is("the room of " + i, i % 6, room.ofFind(i, 1));
        c.taken("the last one", () -> Rooms.withFinds(29), r -> r.find(0, 0, 0, 0, 0, 0, 0));
        c.state("one more", () -> Rooms.withFinds(30), r -> r.find(0, 0, 0, 0, 0, 0, 0));
        c.state("one more than those that are gone", FullAndEmptyTest::withDestroyedFinds,
            r -> r.find(0, 0, 0, 0, 0, 0, 0));
    }

    private static Lostroom withErasedClaims() {
        Lostroom room = Rooms.withClaims(20);
        for (int i = 0; i < 20; i++) room.withdraw(i);
        room.pass(90);
        return room;
    }

    private static void twentyClaims() {
        c.promise("claims are numbered from 0, at most 20");
        Lostroom room = new Lostroom();
        for (int i = 0; i < 20; i++) c.is("the number", i, room.claim(i % 8, i % 10, 0, 0, i));
        for (int i = 0; i < 20; i++) c.is("the words of " + i, i, room.ofClaim(i, 1));
        c.taken("the last one", () -> Rooms.withClaims(19), r -> r.claim(0, 0, 0, 0, 0));
        c.state("one more", () -> Rooms.withClaims(20), r -> r.claim(0, 0, 0, 0, 0));
        c.state("one more than those that are gone", FullAndEmptyTest::withErasedClaims, r -> r.claim(0, 0, 0, 0, 0));
    }

    private static void hands() {
        c.promise("the first and the latest 11 of its hands are kept");
        Lostroom room = new Lostroom();
        room.pass(7);
        room.find(0, 0, 5, 0, 0, 0, 5);
        for (int came = 0; came <= 30; came++) {
            if (came > 0) {
                room.send(0, came % 5);
                room.pass(1);
            }
            int kept = Math.min(came + 1, 12);
            c.is("kept after " + came, kept, room.ofFind(0, 4));
            c.is("the day of the first one", 7, room.hand(0, 0, true));
            c.is("the room of the first one", 5, room.hand(0, 0, false));
            c.is("the day of the last one", 7 + came, room.hand(0, kept - 1, true));
            int second = Math.max(1, came - 10);
            if (came > 0) c.is("the day of the second one", 7 + second, room.hand(0, 1, true));
            if (came > 0) c.is("the room of the second one", second % 5, room.hand(0, 1, false));
        }
        for (int place = 1; place < 12; place++) {
            c.is("the days in their order", 7 + 19 + place, room.hand(0, place, true));
            c.is("the rooms in their order", (19 + place) % 5, room.hand(0, place, false));
        }
    }

    private static void handsOfWhatTurnsUp() {
        c.promise("promise 11: how many hands are kept then");
        Lostroom room = Rooms.withFinds(1);
        for (int i = 1; i <= 15; i++) {
            room.send(0, 1 + i % 2);
            room.lose(1 + i % 2);
            c.is("turned up so many times: " + i, Math.min(12, i + 1), room.turnUp(0, 3 + i % 3));
            c.is("the room of the last one", 3 + i % 3, room.hand(0, Math.min(11, i), false));
        }
        c.is("all on one day", 0, room.hand(0, 11, true));
        c.is("the first one is as it was", 0, room.hand(0, 0, false));
        c.is("the second one is the fifth that came", 3 + 5 % 3, room.hand(0, 1, false));
    }

    private static void wordsOfFinds() {
        c.promise("promise 8: how many words it has then");
        Lostroom room = new Lostroom();
        room.find(0, 0, 0, 0, 0, 0, 0);
        c.is("none", 0, room.see(0, 0));
        for (int word = 23; word >= 0; word--) c.is("one more", 24 - word, room.see(0, 1 << word));
        c.is("all again", 24, room.see(0, 0xFFFFFF));
        c.is("all", 0xFFFFFF, room.ofFind(0, 3));
        room.find(0, 0, 0, 0, 0xFFFFFF, 0, 0);
        c.is("all are hidden, none is added", 0, room.see(1, 0));
        c.is("none is told", 0, room.ofFind(1, 3));
    }

    private static void wordsOfClaims() {
        c.promise("promises 14 and 15: how many words then");
        Lostroom room = new Lostroom();
        room.claim(0, 0, 0, 0, 0);
        c.is("none", 0, room.say(0, 0));
        c.is("none told", 0, room.tell(0, 0));
        for (int word = 0; word < 24; word += 2) c.is("one more", word / 2 + 1, room.say(0, 1 << word));
        for (int word = 0; word < 24; word++) c.is("one more told", word + 1, room.tell(0, 1 << word));
        c.is("told ones are among its words", 0xFFFFFF, room.ofClaim(0, 1));
        c.is("all are told", 0xFFFFFF, room.ofClaim(0, 2));
        c.is("all again", 24, room.say(0, 0xFFFFFF));
        c.is("all told again", 24, room.tell(0, 0xFFFFFF));
        room.claim(0, 0, 0, 0, 0xFFFFFF);
        c.is("all words from the first", 24, room.say(1, 0));
        c.is("but none is told", 0, room.tell(1, 0));
    }

    private static void bags() {
        c.promise("promise 10: how many finds");
        Lostroom room = Rooms.withFinds(30);
        c.is("none on the way", 0, room.lose(5));
        for (int i = 0; i < 30; i++) room.send(i, 5);
        c.is("none to the room from which they went", 0, room.lose(0));
        c.is("all", 30, room.lose(5));
        c.is("none any more", 0, room.lose(5));
        for (int i = 0; i < 30; i++) c.is("MISSING", Lostroom.MISSING, room.ofFind(i, 0));
        Lostroom came = Rooms.withFinds(30);
        for (int i = 0; i < 30; i++) came.send(i, 5);
        came.pass(1);
        c.is("none once they came", 0, came.lose(5));
        c.is("all are there", (1 << 30) - 1, came.audit(5));
    }

    private static void rooms() {
        c.promise("promise 33: the finds, as a set");
        Lostroom room = new Lostroom();
        for (int i = 0; i < 30; i++) room.find(0, 0, 0, 0, 0, 0, i % 5);
        int everyFifth = 1 | 1 << 5 | 1 << 10 | 1 << 15 | 1 << 20 | 1 << 25;
        for (int i = 0; i < 5; i++) c.is("six in the room " + i, everyFifth << i, room.audit(i));
        c.is("none in the last room", 0, room.audit(5));
        for (int i = 0; i < 29; i++) room.send(i, 5);
        c.is("only the last find", 1 << 29, room.audit(4));
        for (int i = 0; i < 4; i++) c.is("none in the room " + i, 0, room.audit(i));
        room.pass(1);
        c.is("all but the last find", (1 << 29) - 1, room.audit(5));
    }

    private static void candidates() {
        c.promise("promise 25: of alike ones by rising numbers");
        Lostroom room = Rooms.withFinds(30);
        room.claim(0, 0, 0, 0, 7);
        for (int place = 0; place < 30; place++) c.is("all alike", place, room.candidate(0, place));
        c.is("there are not so many", Lostroom.NONE, room.candidate(0, 30));
        room.see(29, 1);
        room.see(15, 3);
        int[] order = {15, 29, 0, 1};
        for (int place = 0; place < 4; place++) c.is("by falling scores", order[place], room.candidate(0, place));
        c.is("the last one", 28, room.candidate(0, 29));
        c.is("there are still not so many", Lostroom.NONE, room.candidate(0, 30));
        c.promise("promise 26: as near to half as can be");
        for (int find = 0; find < 14; find++) room.see(find, 1 << 20);
        for (int find = 14; find < 30; find++) room.see(find, 1 << 21);
        c.is("14 and 16 of 30, the lowest", 20, room.question(0));
        for (int find = 0; find < 15; find++) room.see(find, 1 << 23);
        c.is("15 of 30", 23, room.question(0));
    }
}
