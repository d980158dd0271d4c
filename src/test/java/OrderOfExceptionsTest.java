/** "If several apply, the one that the throws clause names first is thrown": each pair that can come together. */
public final class OrderOfExceptionsTest {
    private static final Checks c = new Checks();

    public static void main(String[] args) {
        wordsKindsPlaces();
        find();
        ofFinds();
        claim();
        ofClaims();
        releaseAndPayOut();
        terms();
        asking();
        c.end();
    }

    private static void wordsKindsPlaces() {
        c.promise("promise 2: no such word, before the same one");
        c.bounds("-1", Lostroom::new, r -> r.near(-1, -1));
        c.bounds("24", Lostroom::new, r -> r.near(24, 24));
        c.promise("promise 3: no such kind, before the same one");
        c.bounds("-1", Lostroom::new, r -> r.alike(-1, -1));
        c.bounds("8", Lostroom::new, r -> r.alike(8, 8));
        c.promise("promise 4: no such kind, before a wrong term or rate");
        c.bounds("term 0", Lostroom::new, r -> r.rule(8, 0, 0));
        c.bounds("term 401", Lostroom::new, r -> r.rule(-1, 401, 0));
        c.bounds("rate -1", Lostroom::new, r -> r.rule(8, 1, -1));
        c.bounds("rate 51", Lostroom::new, r -> r.rule(-1, 1, 51));
        c.promise("promise 5: no such train or room, before a stop that is told already");
        c.bounds("a train that stops everywhere", OrderOfExceptionsTest::withAllStops, r -> r.stop(0, 6));
        c.bounds("a room where all stop", OrderOfExceptionsTest::withAllStops, r -> r.stop(4, 0));
    }

    private static Lostroom withAllStops() {
        Lostroom room = new Lostroom();
        for (int i = 0; i < 24; i++) room.stop(i / 6, i % 6);
        return room;
    }

    private static void find() {
        c.promise("promise 7: no such kind, place or room, before another wrong argument");
        int[][] wrong = {{-1, 0, 0}, {8, 0, 0}, {0, -1, 0}, {0, 10, 0}, {0, 0, -1}, {0, 0, 6}};
        for (int[] w : wrong) {
            c.bounds("daysAgo", Lostroom::new, r -> r.find(w[0], w[1], 1, 0, 0, 0, w[2]));
            c.bounds("words", Lostroom::new, r -> r.find(w[0], w[1], 0, -1, 0, 0, w[2]));
            c.bounds("secret", Lostroom::new, r -> r.find(w[0], w[1], 0, 0, 1 << 24, 0, w[2]));
            c.bounds("in common", Lostroom::new, r -> r.find(w[0], w[1], 0, 1, 1, 0, w[2]));
            c.bounds("value", Lostroom::new, r -> r.find(w[0], w[1], 0, 0, 0, 10000, w[2]));
            c.bounds("30 finds", () -> Rooms.withFinds(30), r -> r.find(w[0], w[1], 0, 0, 0, 0, w[2]));
            c.bounds("all at once", () -> Rooms.withFinds(30), r -> r.find(w[0], w[1], -1, -1, -1, -1, w[2]));
        }
        c.promise("promise 7: a wrong argument, before 30 finds");
        c.argument("daysAgo", () -> Rooms.withFinds(30), r -> r.find(0, 0, 1, 0, 0, 0, 0));
        c.argument("words", () -> Rooms.withFinds(30), r -> r.find(0, 0, 0, -1, 0, 0, 0));
        c.argument("secret", () -> Rooms.withFinds(30), r -> r.find(0, 0, 0, 0, 1 << 24, 0, 0));
        c.argument("in common", () -> Rooms.withFinds(30), r -> r.find(0, 0, 0, 1, 1, 0, 0));
        c.argument("value", () -> Rooms.withFinds(30), r -> r.find(0, 0, 0, 0, 0, -1, 0));
    }

    private static Lostroom kept() {
        return Rooms.withFindThatIs(Lostroom.KEPT);
    }

    private static Lostroom onTheWay() {
        return Rooms.withFindThatIs(Lostroom.ON_THE_WAY);
    }

    private static void ofFinds() {
        c.promise("promise 8");
        c.bounds("no such find, before wrong words", Rooms::withBoth, r -> r.see(1, -1));
        c.bounds("no such find, before words that there are not", Rooms::withBoth, r -> r.see(-1, 1 << 24));
        for (int state = 1; state <= 6; state++) seeOfWhatIsNotKept(state);
        c.promise("promise 9");
        for (int state = 1; state <= 6; state++) sendAndTurnUpWithoutRoom(state);
        c.bounds("no such find, before it is there", Rooms::withBoth, r -> r.send(1, 0));
        c.promise("promise 11");
        c.bounds("no such room, before KEPT", Rooms::withBoth, r -> r.turnUp(0, 6));
        c.bounds("no such room, before ON_THE_WAY", OrderOfExceptionsTest::onTheWay, r -> r.turnUp(0, -1));
    }

    private static void seeOfWhatIsNotKept(int state) {
        c.argument("words -1, before the state " + state, () -> Rooms.withFindThatIs(state), r -> r.see(0, -1));
        c.argument("the word 24, before the state " + state, () -> Rooms.withFindThatIs(state), r -> r.see(0, 1 << 24));
        c.argument("a hidden word, before the state " + state, () -> Rooms.withFindThatIs(state), r -> r.see(0, 4));
    }

    private static void sendAndTurnUpWithoutRoom(int state) {
        c.bounds("send to no room, before the state " + state, () -> Rooms.withFindThatIs(state), r -> r.send(0, 6));
        if (state != Lostroom.MISSING) {
            c.bounds("up in no room, before the state " + state, () -> Rooms.withFindThatIs(state), r -> r.turnUp(0, 6));
        }
    }

    private static void claim() {
        c.promise("promise 13: no such kind or place, before another wrong argument");
        int[][] wrong = {{-1, 0}, {8, 0}, {0, -1}, {0, 10}};
        for (int[] w : wrong) {
            c.bounds("from", Lostroom::new, r -> r.claim(w[0], w[1], -1, 0, 0));
            c.bounds("to", Lostroom::new, r -> r.claim(w[0], w[1], 0, 1, 0));
            c.bounds("words", Lostroom::new, r -> r.claim(w[0], w[1], 0, 0, -1));
            c.bounds("20 claims", () -> Rooms.withClaims(20), r -> r.claim(w[0], w[1], 0, 0, 0));
            c.bounds("all at once", () -> Rooms.withClaims(20), r -> r.claim(w[0], w[1], -1, -2, -1));
        }
        c.promise("promise 13: a wrong argument, before 20 claims");
        c.argument("from", () -> Rooms.withClaims(20), r -> r.claim(0, 0, 1, 1, 0));
        c.argument("to", () -> Rooms.withClaims(20), r -> r.claim(0, 0, 0, 1, 0));
        c.argument("words", () -> Rooms.withClaims(20), r -> r.claim(0, 0, 0, 0, 1 << 24));
    }

    private static Lostroom withdrawn() {
        Lostroom room = Rooms.withBoth();
        room.withdraw(0);
        return room;
    }

    private static void ofClaims() {
        c.promise("promise 14");
        c.bounds("no such claim, before wrong words", Rooms::withBoth, r -> r.say(1, -1));
        c.argument("words -1, before CLOSED", OrderOfExceptionsTest::withdrawn, r -> r.say(0, -1));
        c.argument("the word 24, before CLOSED", OrderOfExceptionsTest::withdrawn, r -> r.say(0, 1 << 24));
        c.promise("promise 15");
        c.bounds("no such claim, before wrong words", Rooms::withBoth, r -> r.tell(1, 1 << 24));
        c.argument("words -1, before CLOSED", OrderOfExceptionsTest::withdrawn, r -> r.tell(0, -1));
        c.argument("the word 24, before CLOSED", OrderOfExceptionsTest::withdrawn, r -> r.tell(0, 1 << 24));
    }

    private static void releaseAndPayOut() {
        c.promise("promises 17 and 21: no such find or claim, before what may not be");
        for (int state = 0; state <= 6; state++) {
            int what = state;
            Checks.Setup setup = () -> Rooms.withFindThatIs(what);
            c.bounds("release to no claim in the state " + state, setup, r -> r.release(0, 19));
            c.bounds("pay out to no claim in the state " + state, setup, r -> r.payOut(0, 19));
            c.bounds("release of no find in the state " + state, setup, r -> r.release(1, 0));
            c.bounds("pay out of no find in the state " + state, setup, r -> r.payOut(1, 0));
        }
        c.bounds("release to no claim, CLOSED ones", OrderOfExceptionsTest::withdrawn, r -> r.release(0, 1));
        c.bounds("pay out to no claim, CLOSED ones", OrderOfExceptionsTest::withdrawn, r -> r.payOut(0, 1));
    }

    private static Lostroom perishing() {
        Lostroom room = new Lostroom();
        room.find(7, 0, 0, 0, 0, 0, 0);
        room.pass(2);
        return room;
    }

    private static void terms() {
        c.promise("promise 18");
        c.bounds("no such find, before wrong days", Rooms::withBoth, r -> r.extend(1, 0));
        c.argument("days 0, before one that perishes", OrderOfExceptionsTest::perishing, r -> r.extend(0, 0));
        c.argument("days 366, before one that perishes", OrderOfExceptionsTest::perishing, r -> r.extend(0, 366));
        c.promise("promise 19");
        c.bounds("no such find, before a wrong price", OrderOfExceptionsTest::kept, r -> r.sell(1, 0));
        c.argument("price 0, before one that perishes", OrderOfExceptionsTest::perishing, r -> r.sell(0, 0));
        c.argument("price 10000, before one that perishes", OrderOfExceptionsTest::perishing, r -> r.sell(0, 10000));
        c.argument("price 0, before a term that is not over", Rooms::withBoth, r -> r.sell(0, 0));
        for (int state = 3; state <= 6; state++) extendAndSellWhatIsGone(state);
        c.promise("promise 22: wrong days, before days above 9999");
        c.argument("401 days on the last day", () -> Rooms.onDay(9999), r -> r.pass(401));
        c.argument("0 days on the last day", () -> Rooms.onDay(9999), r -> r.pass(0));
        c.argument("so many that they wrap round", () -> Rooms.onDay(9999), r -> r.pass(Integer.MAX_VALUE));
    }

    private static void extendAndSellWhatIsGone(int state) {
        c.argument("days 0, before the state " + state, () -> Rooms.withFindThatIs(state), r -> r.extend(0, 0));
        c.argument("days 366, before the state " + state, () -> Rooms.withFindThatIs(state), r -> r.extend(0, 366));
        c.argument("price 0, before the state " + state, () -> Rooms.withFindThatIs(state), r -> r.sell(0, 0));
        c.argument("price 10000, before the state " + state, () -> Rooms.withFindThatIs(state), r -> r.sell(0, 10000));
    }

    private static void asking() {
        c.promise("promise 29: no such find, before a wrong what");
        c.bounds("what -1", Rooms::withBoth, r -> r.ofFind(1, -1));
        c.bounds("what 5", Rooms::withBoth, r -> r.ofFind(-1, 5));
        c.promise("promise 31: no such claim, before a wrong what");
        c.bounds("what -1", Rooms::withBoth, r -> r.ofClaim(1, -1));
        c.bounds("what 4", Rooms::withBoth, r -> r.ofClaim(-1, 4));
    }
}
