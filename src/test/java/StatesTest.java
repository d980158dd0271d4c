/** What becomes of finds and claims, and which calls are refused for it: each call in each state. */
public final class StatesTest {
    private static final Checks c = new Checks();
    private static final int FIND_STATES = 7;

    public static void main(String[] args) {
        for (int state = 0; state < FIND_STATES; state++) {
            findIsIn(state);
            callsOfFind(state);
            callsThatWantAnOwner(state);
            callsThatWantATermThatIsOver(state);
            asksOfFind(state);
        }
        roomsOfWhatWasMoved();
        whatIsHeld();
        whatPerishes();
        for (int i = 0; i < CLAIMS.length; i++) {
            claimIsIn(i);
            callsOfClaim(i);
            asksOfClaim(i);
        }
        c.end();
    }

    private static Checks.Setup in(int state) {
        return () -> Rooms.withFindThatIs(state);
    }

    private static void refusedUnless(boolean isTaken, String what, Checks.Setup setup, Checks.Call call) {
        if (isTaken) c.taken(what, setup, call); else c.state(what, setup, call);
    }

    private static void findIsIn(int state) {
        c.promise("finds: what becomes of them, the state " + state);
        Lostroom room = Rooms.withFindThatIs(state);
        boolean isUnderWay = state == Lostroom.ON_THE_WAY || state == Lostroom.MISSING;
        c.is("its state", state, room.ofFind(0, 0));
        c.is("its room", isUnderWay ? 3 : 2, room.ofFind(0, 1));
        c.is("its last day", 11, room.ofFind(0, 2));
        c.is("its words", 1, room.ofFind(0, 3));
        c.is("its hands", 1, room.ofFind(0, 4));
        c.is("the room of its hand", 2, room.hand(0, 0, false));
        c.is("the day of its hand", 10, room.hand(0, 0, true));
        c.is("KEPT in the room 2", state == Lostroom.KEPT ? 1 : 0, room.audit(2));
        c.is("KEPT in the room 3", 0, room.audit(3));
        room.pass(1);
        boolean isThere = state == Lostroom.ON_THE_WAY;
        c.is("its state on the next day", isThere ? Lostroom.KEPT : state, room.ofFind(0, 0));
        c.is("KEPT in the room 3 on the next day", isThere ? 1 : 0, room.audit(3));
        c.is("its hands on the next day", isThere ? 2 : 1, room.ofFind(0, 4));
    }

    /** Told in the room 0, it came to the room 4 by a bag, or turned up in the room 5. */
    private static Lostroom moved(boolean isByBag) {
        Lostroom room = Rooms.withFinds(1);
        room.send(0, 4);
        if (!isByBag) {
            room.lose(4);
            room.turnUp(0, 5);
        }
        room.pass(61);
        return room;
    }

    private static void roomsOfWhatWasMoved() {
        for (boolean isByBag : new boolean[] {true, false}) {
            int last = isByBag ? 4 : 5;
            c.promise("promise 29: of others the room in which it was KEPT last");
            Lostroom room = moved(isByBag);
            c.is("KEPT", last, room.ofFind(0, 1));
            room.claim(0, 0, 0, 0, 0);
            room.release(0, 0);
            c.is("RELEASED", last, room.ofFind(0, 1));
            Lostroom sold = moved(isByBag);
            sold.sell(0, 9);
            c.is("SOLD", last, sold.ofFind(0, 1));
            sold.claim(0, 0, 0, 0, 0);
            sold.payOut(0, 0);
            c.is("PAID_OUT", last, sold.ofFind(0, 1));
            c.is("none is KEPT there", 0, sold.audit(last));
            c.promise("promise 20: the room in which it was");
            Lostroom destroyed = moved(isByBag);
            c.is("destroyed", last, destroyed.destroy(0));
            c.is("DESTROYED", last, destroyed.ofFind(0, 1));
            c.promise("promise 9: the room from which it goes");
            Lostroom sent = moved(isByBag);
            c.is("sent on", last, sent.send(0, 1));
            c.is("ON_THE_WAY", 1, sent.ofFind(0, 1));
            sent.lose(1);
            c.is("MISSING", 1, sent.ofFind(0, 1));
        }
    }

    private static void callsOfFind(int state) {
        boolean isKept = state == Lostroom.KEPT;
        boolean isHere = state <= Lostroom.MISSING;
        c.promise("promise 8: refused if it is not KEPT");
        refusedUnless(isKept, "state " + state, in(state), r -> r.see(0, 8));
        refusedUnless(isKept, "no word, state " + state, in(state), r -> r.see(0, 0));
        c.promise("promise 9: refused if it is not KEPT, or is there");
        refusedUnless(isKept, "state " + state, in(state), r -> r.send(0, 5));
        c.state("to its room, state " + state, in(state), r -> r.send(0, r.ofFind(0, 1)));
        c.state("to the room in which it was told, state " + state, in(state), r -> r.send(0, 2));
        c.promise("promise 10: loses what is on the way");
        Lostroom room = Rooms.withFindThatIs(state);
        c.is("lost, state " + state, state == Lostroom.ON_THE_WAY ? 1 : 0, room.lose(3));
        c.is("then, state " + state, state == Lostroom.ON_THE_WAY ? Lostroom.MISSING : state, room.ofFind(0, 0));
        c.is("lost on the way to the room 2, state " + state, 0, Rooms.withFindThatIs(state).lose(2));
        c.promise("promise 11: refused if it is not MISSING");
        refusedUnless(state == Lostroom.MISSING, "state " + state, in(state), r -> r.turnUp(0, 5));
        refusedUnless(state == Lostroom.MISSING, "in its room, state " + state, in(state), r -> r.turnUp(0, 2));
        c.promise("promise 12: refused if it is not here");
        refusedUnless(isHere, "held, state " + state, in(state), r -> r.hold(0, true));
        refusedUnless(isHere, "not held, state " + state, in(state), r -> r.hold(0, false));
        c.promise("promise 18: refused if it is not here");
        refusedUnless(isHere, "state " + state, in(state), r -> r.extend(0, 1));
        refusedUnless(isHere, "for long, state " + state, in(state), r -> r.extend(0, 365));
    }

    private static Lostroom withOwner(int state) {
        Lostroom room = Rooms.withFindThatIs(state);
        Rooms.anOwner(room);
        return room;
    }

    private static int lastClaim(Lostroom room) {
        return Picture.countClaims(room) - 1;
    }

    private static void callsThatWantAnOwner(int state) {
        Checks.Setup setup = () -> withOwner(state);
        c.promise("promise 17: refused if the find is not KEPT");
        refusedUnless(state == Lostroom.KEPT, "state " + state, setup, r -> r.release(0, lastClaim(r)));
        c.promise("promise 21: refused if the find is not SOLD");
        refusedUnless(state == Lostroom.SOLD, "state " + state, setup, r -> r.payOut(0, lastClaim(r)));
    }

    private static void callsThatWantATermThatIsOver(int state) {
        boolean isKept = state == Lostroom.KEPT;
        c.promise("a find's term is over, if it is KEPT");
        c.is("state " + state, isKept, Rooms.withFindThatIs(state).isDue(0));
        refusedUnless(isKept, "sell in the state " + state, in(state), r -> r.sell(0, 1));
        refusedUnless(isKept, "destroy in the state " + state, in(state), r -> r.destroy(0));
        c.promise("a find's term is over, if it is no candidate of any claim");
        c.is("wanted, state " + state, false, withOwner(state).isDue(0));
        c.state("sell what is wanted, state " + state, () -> withOwner(state), r -> r.sell(0, 1));
        c.state("destroy what is wanted, state " + state, () -> withOwner(state), r -> r.destroy(0));
    }

    private static void asksOfFind(int state) {
        boolean isHere = state <= Lostroom.MISSING;
        Lostroom room = withOwner(state);
        int claim = lastClaim(room);
        c.promise("promise 24: whatever became of them");
        c.is("find in the state " + state, 92, room.fit(0, claim));
        c.promise("promise 27: whether a claim proves a find");
        c.is("find in the state " + state, true, room.isProven(0, claim));
        c.promise("promise 25: of those that are here");
        c.is("find in the state " + state, isHere ? 0 : Lostroom.NONE, room.candidate(claim, 0));
        c.is("no second one, state " + state, Lostroom.NONE, room.candidate(claim, 1));
        c.promise("promise 26: of its candidates that are here");
        int other = room.find(0, 0, 2, 1 << 9, 0, 0, 0);
        c.is("another find with the word 9", 1, other);
        c.is("find in the state " + state, isHere ? 0 : Lostroom.NONE, room.question(claim));
    }

    private static Lostroom held(boolean isSent, boolean isLost) {
        Lostroom room = Rooms.withFindThatIs(Lostroom.KEPT);
        room.hold(0, true);
        if (isSent) room.send(0, 3);
        if (isLost) room.lose(3);
        return room;
    }

    private static Lostroom heldWithOwner() {
        Lostroom room = held(false, false);
        Rooms.anOwner(room);
        return room;
    }

    private static void whatIsHeld() {
        c.promise("a find's term is over, if it is not held");
        c.is("held", false, held(false, false).isDue(0));
        c.state("sell", () -> held(false, false), r -> r.sell(0, 1));
        c.state("destroy", () -> held(false, false), r -> r.destroy(0));
        Lostroom room = held(false, false);
        c.is("it was held", true, room.hold(0, false));
        c.is("held no more", true, room.isDue(0));
        c.is("destroyed then", 2, room.destroy(0));
        c.promise("promise 17: refused if the find is held");
        c.state("held", StatesTest::heldWithOwner, r -> r.release(0, 0));
        Lostroom freed = heldWithOwner();
        freed.hold(0, false);
        c.is("held no more", 15, freed.release(0, 0));
        c.promise("promise 12: what is held");
        c.taken("is seen", () -> held(false, false), r -> r.see(0, 8));
        c.taken("is sent", () -> held(false, false), r -> r.send(0, 3));
        c.taken("is extended", () -> held(false, false), r -> r.extend(0, 9));
        c.is("is lost", 1, held(true, false).lose(3));
        c.is("turns up", 2, held(true, true).turnUp(0, 4));
        c.is("is held on the way", true, held(true, false).hold(0, true));
        c.is("is held while it is missing", true, held(true, true).hold(0, true));
    }

    /** The find 0 perishes; the find 1 does not. */
    private static Lostroom perishing(int days) {
        Lostroom room = new Lostroom();
        room.find(7, 0, 0, 0, 0, 0, 4);
        room.find(6, 0, 0, 0, 0, 0, 4);
        if (days > 0) room.pass(days);
        return room;
    }

    private static void whatPerishes() {
        c.promise("kinds 0 to 7, of which 7 perishes");
        c.state("extend", () -> perishing(0), r -> r.extend(0, 100));
        c.state("extend after its term", () -> perishing(2), r -> r.extend(0, 1));
        c.taken("extend of the kind 6", () -> perishing(0), r -> r.extend(1, 100));
        c.state("sell after its term", () -> perishing(61), r -> r.sell(0, 1));
        c.taken("sell of the kind 6", () -> perishing(61), r -> r.sell(1, 1));
        c.is("destroy after its term", 4, perishing(2).destroy(0));
        Lostroom room = perishing(0);
        c.is("release", 5, room.release(0, room.claim(7, 0, 0, 0, 0)));
    }

    private static final String[] CLAIMS = {"OPEN", "SERVED by release", "SERVED by payOut", "CLOSED",
        "ERASED, was SERVED by release", "ERASED, was SERVED by payOut", "ERASED, was CLOSED"};
    private static final int[] CLAIM_STATES = {Lostroom.OPEN, Lostroom.SERVED, Lostroom.SERVED, Lostroom.CLOSED,
        Lostroom.ERASED, Lostroom.ERASED, Lostroom.ERASED};
    private static final int[] SERVED_BY = {Lostroom.NONE, 0, 1, Lostroom.NONE, 0, 1, Lostroom.NONE};

    /**
     * The finds 0 and 2 are KEPT, 1 and 3 were SOLD, none has hidden words, so each claim proves them. The claim 0, with
     * the words 0 and 1, of which it tells 1, becomes what its index tells; the finds 2 and 3 are left for it.
     */
    private static Lostroom withClaimThatIs(int index) {
        Lostroom room = new Lostroom();
        room.rule(1, 1, 0);
        for (int i = 0; i < 4; i++) room.find(i % 2, 0, 0, 3, 0, 0, 0);
        room.alike(0, 1);
        room.threshold(1);
        room.pass(2);
        room.sell(1, 40);
        room.sell(3, 40);
        room.claim(0, 0, 0, 0, 1);
        room.tell(0, 2);
        if (index == 1 || index == 4) room.release(0, 0);
        if (index == 2 || index == 5) room.payOut(1, 0);
        if (index == 3 || index == 6) room.withdraw(0);
        if (index >= 4) room.pass(90);
        return room;
    }

    private static void claimIsIn(int index) {
        c.promise("claims: what becomes of them, " + CLAIMS[index]);
        Lostroom room = withClaimThatIs(index);
        boolean isErased = CLAIM_STATES[index] == Lostroom.ERASED;
        c.is("its state", CLAIM_STATES[index], room.ofClaim(0, 0));
        c.is("its words", isErased ? 0 : 3, room.ofClaim(0, 1));
        c.is("those told", isErased ? 0 : 2, room.ofClaim(0, 2));
        c.is("the find by which it was SERVED", SERVED_BY[index], room.ofClaim(0, 3));
        room.pass(400);
        c.is("its state later", index == 0 ? Lostroom.OPEN : Lostroom.ERASED, room.ofClaim(0, 0));
        c.is("its words later", index == 0 ? 3 : 0, room.ofClaim(0, 1));
        c.is("those told later", index == 0 ? 2 : 0, room.ofClaim(0, 2));
        c.is("the find later", SERVED_BY[index], room.ofClaim(0, 3));
    }

    private static void callsOfClaim(int index) {
        Checks.Setup setup = () -> withClaimThatIs(index);
        boolean isOpen = index == 0;
        c.promise("promises 14 to 16: refused if it is not OPEN, " + CLAIMS[index]);
        refusedUnless(isOpen, "say", setup, r -> r.say(0, 8));
        refusedUnless(isOpen, "say nothing", setup, r -> r.say(0, 0));
        refusedUnless(isOpen, "tell", setup, r -> r.tell(0, 8));
        refusedUnless(isOpen, "tell nothing", setup, r -> r.tell(0, 0));
        refusedUnless(isOpen, "withdraw", setup, r -> r.withdraw(0));
        c.promise("promises 17 and 21: refused if it is no candidate, " + CLAIMS[index]);
        refusedUnless(isOpen, "release", setup, r -> r.release(2, 0));
        refusedUnless(isOpen, "payOut", setup, r -> r.payOut(3, 0));
    }

    private static void asksOfClaim(int index) {
        Lostroom room = withClaimThatIs(index);
        boolean isOpen = index == 0;
        boolean isErased = CLAIM_STATES[index] == Lostroom.ERASED;
        room.see(2, 4);
        c.promise("promise 24: whatever became of them");
        c.is("the claim is " + CLAIMS[index], isErased ? 80 : 92, room.fit(2, 0));
        c.promise("promise 27: a claim proves a find that hides nothing");
        c.is("the claim is " + CLAIMS[index], true, room.isProven(2, 0));
        c.promise("a claim that is OPEN has as candidates");
        c.is("the claim is " + CLAIMS[index], isOpen ? 0 : Lostroom.NONE, room.candidate(0, 0));
        c.is("the second one", isOpen ? 2 : Lostroom.NONE, room.candidate(0, 1));
        c.is("the question", isOpen ? 2 : Lostroom.NONE, room.question(0));
        boolean isGone = SERVED_BY[index] == 0;
        room.pass(400);
        c.is("its finds are due, find 0", !isOpen && !isGone, room.isDue(0));
        c.is("its finds are due, find 2", !isOpen, room.isDue(2));
    }
}
