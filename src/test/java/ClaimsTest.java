/** Promises 13 to 17. */
public final class ClaimsTest {
    private static final Checks c = new Checks();

    public static void main(String[] args) {
        claim();
        atMostTwenty();
        say();
        tell();
        withdraw();
        release();
        releaseThatIsRefused();
        releaseThatIsBeaten();
        beatenByWhatIsNoCandidate();
        releaseWithoutHiddenWords();
        c.end();
    }

    private static Lostroom onDayTen() {
        Lostroom room = new Lostroom();
        room.pass(10);
        return room;
    }

    private static Lostroom withClaim() {
        Lostroom room = onDayTen();
        room.claim(1, 6, 5, 8, 7);
        return room;
    }

    private static Lostroom withClosedClaim() {
        Lostroom room = withClaim();
        room.withdraw(0);
        return room;
    }

    private static Lostroom withErasedClaim() {
        Lostroom room = withClosedClaim();
        room.pass(90);
        return room;
    }

    private static void claim() {
        c.promise("promise 13");
        Lostroom room = withClaim();
        c.is("OPEN", Lostroom.OPEN, room.ofClaim(0, 0));
        c.is("its words", 7, room.ofClaim(0, 1));
        c.is("none told as a proof", 0, room.ofClaim(0, 2));
        c.is("served by none", Lostroom.NONE, room.ofClaim(0, 3));
        c.is("the next number, the edges of all", 1, room.claim(7, 9, 10, 10, 0xFFFFFF));
        c.is("the lower edges", 2, room.claim(0, 0, 0, 0, 0));
        c.bounds("kind -1", ClaimsTest::onDayTen, r -> r.claim(-1, 0, 0, 0, 0));
        c.bounds("kind 8", ClaimsTest::onDayTen, r -> r.claim(8, 0, 0, 0, 0));
        c.bounds("place -1", ClaimsTest::onDayTen, r -> r.claim(0, -1, 0, 0, 0));
        c.bounds("place 10", ClaimsTest::onDayTen, r -> r.claim(0, 10, 0, 0, 0));
        c.bounds("no such place comes before the others", ClaimsTest::onDayTen, r -> r.claim(0, 10, -1, -2, -1));
        c.argument("from -1", ClaimsTest::onDayTen, r -> r.claim(0, 0, -1, 0, 0));
        c.argument("from 11", ClaimsTest::onDayTen, r -> r.claim(0, 0, 11, 11, 0));
        c.argument("to before from", ClaimsTest::onDayTen, r -> r.claim(0, 0, 5, 4, 0));
        c.argument("to 11", ClaimsTest::onDayTen, r -> r.claim(0, 0, 5, 11, 0));
        c.argument("words -1", ClaimsTest::onDayTen, r -> r.claim(0, 0, 0, 0, -1));
        c.argument("the word 24", ClaimsTest::onDayTen, r -> r.claim(0, 0, 0, 0, 1 << 24));
    }

    private static Lostroom withTwentyClaims() {
        Lostroom room = new Lostroom();
        for (int i = 0; i < 20; i++) room.claim(0, 0, 0, 0, 0);
        return room;
    }

    private static void atMostTwenty() {
        Lostroom room = new Lostroom();
        for (int i = 0; i < 20; i++) c.is("a number", i, room.claim(0, 0, 0, 0, 0));
        c.state("there are 20", ClaimsTest::withTwentyClaims, r -> r.claim(0, 0, 0, 0, 0));
        c.argument("a wrong day comes before that", ClaimsTest::withTwentyClaims, r -> r.claim(0, 0, 1, 1, 0));
        c.bounds("no such kind comes before that", ClaimsTest::withTwentyClaims, r -> r.claim(8, 0, 0, 0, 0));
    }

    private static void say() {
        c.promise("promise 14");
        Lostroom room = withClaim();
        c.is("a new word and an old one", 4, room.say(0, 9));
        c.is("its words", 15, room.ofClaim(0, 1));
        c.is("none told as a proof", 0, room.ofClaim(0, 2));
        c.is("all words", 24, room.say(0, 0xFFFFFF));
        c.is("no word", 24, room.say(0, 0));
        c.bounds("claim -1", ClaimsTest::withClaim, r -> r.say(-1, 0));
        c.bounds("claim 1", ClaimsTest::withClaim, r -> r.say(1, -1));
        c.bounds("claim 20", ClaimsTest::withClaim, r -> r.say(20, 0));
        c.argument("words -1", ClaimsTest::withClaim, r -> r.say(0, -1));
        c.argument("the word 24", ClaimsTest::withClaim, r -> r.say(0, 1 << 24));
        c.argument("wrong words come before not OPEN", ClaimsTest::withClosedClaim, r -> r.say(0, -1));
        c.state("CLOSED", ClaimsTest::withClosedClaim, r -> r.say(0, 8));
        c.state("ERASED", ClaimsTest::withErasedClaim, r -> r.say(0, 8));
    }

    private static void tell() {
        c.promise("promise 15");
        Lostroom room = withClaim();
        c.is("a new word and an old one", 2, room.tell(0, 9));
        c.is("they are among its words", 15, room.ofClaim(0, 1));
        c.is("they are told", 9, room.ofClaim(0, 2));
        c.is("one told again, one more", 3, room.tell(0, 17));
        c.is("no word", 3, room.tell(0, 0));
        c.is("all words", 24, room.tell(0, 0xFFFFFF));
        c.bounds("claim -1", ClaimsTest::withClaim, r -> r.tell(-1, 0));
        c.bounds("claim 1", ClaimsTest::withClaim, r -> r.tell(1, -1));
        c.argument("words -1", ClaimsTest::withClaim, r -> r.tell(0, -1));
        c.argument("the word 24", ClaimsTest::withClaim, r -> r.tell(0, 1 << 24));
        c.argument("wrong words come before not OPEN", ClaimsTest::withClosedClaim, r -> r.tell(0, 1 << 30));
        c.state("CLOSED", ClaimsTest::withClosedClaim, r -> r.tell(0, 8));
        c.state("ERASED", ClaimsTest::withErasedClaim, r -> r.tell(0, 8));
    }

    private static void withdraw() {
        c.promise("promise 16");
        Lostroom room = withClaim();
        c.is("today", 10, room.withdraw(0));
        c.is("CLOSED", Lostroom.CLOSED, room.ofClaim(0, 0));
        c.is("its words stay", 7, room.ofClaim(0, 1));
        c.is("served by none", Lostroom.NONE, room.ofClaim(0, 3));
        c.bounds("claim -1", ClaimsTest::withClaim, r -> r.withdraw(-1));
        c.bounds("claim 1", ClaimsTest::withClaim, r -> r.withdraw(1));
        c.state("CLOSED already", ClaimsTest::withClosedClaim, r -> r.withdraw(0));
        c.state("ERASED", ClaimsTest::withErasedClaim, r -> r.withdraw(0));
        c.state("SERVED", ClaimsTest::withReleasedFind, r -> r.withdraw(0));
    }

    /** A find with the word 0 and the hidden words 3, 4 and 5, worth 199; and a claim that fits, but tells nothing yet. */
    private static Lostroom withFindAndClaim() {
        Lostroom room = onDayTen();
        room.rule(1, 60, 50);
        room.find(1, 6, 3, 1, 56, 199, 2);
        room.claim(1, 6, 0, 10, 1);
        return room;
    }

    private static Lostroom withProvenFind() {
        Lostroom room = withFindAndClaim();
        room.tell(0, 24);
        return room;
    }

    private static Lostroom withReleasedFind() {
        Lostroom room = withProvenFind();
        room.release(0, 0);
        return room;
    }

    private static void release() {
        c.promise("promise 17");
        Lostroom room = withProvenFind();
        c.is("the fee and the reward, rounded down", 5 + 99, room.release(0, 0));
        c.is("RELEASED", Lostroom.RELEASED, room.ofFind(0, 0));
        c.is("the room in which it was last", 2, room.ofFind(0, 1));
        c.is("not there any more", 0, room.audit(2));
        c.is("SERVED", Lostroom.SERVED, room.ofClaim(0, 0));
        c.is("by it", 0, room.ofClaim(0, 3));
        c.is("its words stay for now", 25, room.ofClaim(0, 1));
        c.is("fees", 5, room.money(0));
        c.is("rewards", 99, room.money(1));
        c.is("proceeds", 0, room.money(2));
        room.find(1, 6, 3, 1, 56, 2, 2);
        room.claim(1, 6, 0, 10, 1);
        room.tell(1, 24);
        c.is("another one", 5 + 1, room.release(1, 1));
        c.is("served by the find 1", 1, room.ofClaim(1, 3));
        c.is("all fees", 10, room.money(0));
        c.is("all rewards", 100, room.money(1));
    }

    private static Lostroom heldAndProven() {
        Lostroom room = withProvenFind();
        room.hold(0, true);
        return room;
    }

    private static Lostroom sentAndProven() {
        Lostroom room = withProvenFind();
        room.send(0, 0);
        return room;
    }

    private static Lostroom missingAndProven() {
        Lostroom room = sentAndProven();
        room.lose(0);
        return room;
    }

    private static Lostroom withdrawnAndProven() {
        Lostroom room = withProvenFind();
        room.withdraw(0);
        return room;
    }

    private static Lostroom belowThreshold() {
        Lostroom room = withProvenFind();
        room.threshold(room.fit(0, 0) + 1);
        return room;
    }

    private static Lostroom withTold(int words) {
        Lostroom room = withFindAndClaim();
        room.tell(0, words);
        return room;
    }

    private static void releaseThatIsRefused() {
        c.bounds("find -1", ClaimsTest::withProvenFind, r -> r.release(-1, 0));
        c.bounds("find 1", ClaimsTest::withProvenFind, r -> r.release(1, 0));
        c.bounds("claim -1", ClaimsTest::withProvenFind, r -> r.release(0, -1));
        c.bounds("claim 1", ClaimsTest::withProvenFind, r -> r.release(0, 1));
        c.bounds("no such claim comes before not KEPT", ClaimsTest::sentAndProven, r -> r.release(0, 1));
        c.state("RELEASED", ClaimsTest::withReleasedFind, r -> r.release(0, 0));
        c.state("ON_THE_WAY", ClaimsTest::sentAndProven, r -> r.release(0, 0));
        c.state("MISSING", ClaimsTest::missingAndProven, r -> r.release(0, 0));
        c.state("held", ClaimsTest::heldAndProven, r -> r.release(0, 0));
        c.state("CLOSED", ClaimsTest::withdrawnAndProven, r -> r.release(0, 0));
        c.state("below the threshold", ClaimsTest::belowThreshold, r -> r.release(0, 0));
        c.state("no proof", ClaimsTest::withFindAndClaim, r -> r.release(0, 0));
        c.state("one hidden word", () -> withTold(8), r -> r.release(0, 0));
        c.state("two other words", () -> withTold(24 | 3), r -> r.release(0, 0));
        Lostroom room = belowThreshold();
        room.threshold(room.fit(0, 0));
        c.is("just the threshold", 104, room.release(0, 0));
        c.is("one other word", 104, withTold(24 | 1).release(0, 0));
        Lostroom later = withReleasedFind();
        later.claim(1, 6, 0, 10, 1);
        later.tell(1, 24);
        try {
            later.release(0, 1);
            c.is("what was RELEASED is RELEASED again", 0, 1);
        } catch (IllegalStateException e) {
            c.is("the second claim stays OPEN", Lostroom.OPEN, later.ofClaim(1, 0));
        }
    }

    /** Claim 0 and claim 1 both prove the find; the words of claim 1 tell which one has the greater score. */
    private static Lostroom withRival(int words) {
        Lostroom room = withFindAndClaim();
        room.claim(1, 6, 0, 10, words);
        room.tell(0, 24);
        room.tell(1, 24);
        return room;
    }

    private static Lostroom withWithdrawnRival() {
        Lostroom room = withRival(0);
        room.withdraw(0);
        return room;
    }

    private static Lostroom withUnprovenBetterRival() {
        Lostroom room = withFindAndClaim();
        room.tell(0, 24);
        room.claim(1, 6, 0, 10, 1 | 56);
        room.tell(1, 8);
        return room;
    }

    private static void releaseThatIsBeaten() {
        c.state("beaten by a greater score and a higher number", ClaimsTest::withBetterRival, r -> r.release(0, 0));
        c.is("the better one has it", 104, withBetterRival().release(0, 1));
        c.state("beaten by the same score and a lower number", () -> withRival(1), r -> r.release(0, 1));
        c.is("the first one has it", 104, withRival(1).release(0, 0));
        c.state("beaten by a greater score and a lower number", () -> withRival(0), r -> r.release(0, 1));
        c.is("a CLOSED one beats none", 104, withWithdrawnRival().release(0, 1));
        c.is("one that does not prove beats none", 104, withUnprovenBetterRival().release(0, 0));
    }

    /** Claim 1 tells three hidden words, claim 0 only two. */
    private static Lostroom withBetterRival() {
        Lostroom room = withRival(1);
        room.tell(1, 32);
        return room;
    }

    /** Claim 0 is for an alike kind, with the same score, but is no candidate: still it is OPEN and proves the find. */
    private static Lostroom withProvingStranger() {
        Lostroom room = new Lostroom();
        room.find(0, 0, 0, 0, 0, 0, 0);
        room.claim(1, 0, 0, 0, 0);
        room.claim(0, 0, 0, 0, 1 << 9);
        return room;
    }

    private static void beatenByWhatIsNoCandidate() {
        c.promise("claims: beaten");
        Lostroom room = withProvingStranger();
        c.is("NONE is less than the score", 5, room.release(0, 1));
        Lostroom higher = new Lostroom();
        higher.find(0, 0, 0, 0, 1, 0, 0);
        higher.claim(0, 0, 0, 0, 0);
        higher.claim(0, 0, 0, 0, 1);
        higher.tell(1, 1);
        higher.threshold(86);
        c.is("the only candidate", 86, higher.fit(0, 1));
        c.is("has it", 5, higher.release(0, 1));
    }

    private static void releaseWithoutHiddenWords() {
        c.promise("claims: proves");
        Lostroom room = new Lostroom();
        room.find(0, 0, 0, 3, 0, 0, 0);
        room.find(0, 0, 0, 3, 8, 0, 0);
        room.claim(0, 0, 0, 0, 3);
        c.is("no hidden word, none told", true, room.isProven(0, 0));
        c.is("one hidden word, none told", false, room.isProven(1, 0));
        room.tell(0, 8);
        c.is("no hidden word, one other told", true, room.isProven(0, 0));
        c.is("one hidden word, told", true, room.isProven(1, 0));
        room.tell(0, 1);
        c.is("no hidden word, two others told", false, room.isProven(0, 0));
        c.is("one hidden word and one other", true, room.isProven(1, 0));
        c.is("released", 5, room.release(1, 0));
    }
}
