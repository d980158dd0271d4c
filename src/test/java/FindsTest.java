/** Promises 7 to 12. */
public final class FindsTest {
    private static final Checks c = new Checks();

    public static void main(String[] args) {
        find();
        findWithWrongArguments();
        atMostThirty();
        see();
        send();
        lose();
        turnUp();
        hold();
        handsThatAreKept();
        c.end();
    }

    private static Lostroom onDayTen() {
        Lostroom room = new Lostroom();
        room.pass(10);
        return room;
    }

    /** One find in room 1, found 3 days before the day 10, with the words 0 to 2 and the hidden 3 and 4. */
    private static Lostroom withFind() {
        Lostroom room = onDayTen();
        room.find(1, 6, 3, 7, 24, 100, 1);
        return room;
    }

    private static Lostroom withFindOnTheWay() {
        Lostroom room = withFind();
        room.send(0, 4);
        return room;
    }

    private static Lostroom withMissingFind() {
        Lostroom room = withFindOnTheWay();
        room.lose(4);
        return room;
    }

    private static Lostroom withReleasedFind() {
        Lostroom room = withFind();
        room.claim(1, 6, 0, 10, 0);
        room.tell(0, 24);
        room.release(0, 0);
        return room;
    }

    private static Lostroom withDestroyedFind() {
        Lostroom room = withFind();
        room.pass(61);
        room.destroy(0);
        return room;
    }

    private static void find() {
        c.promise("promise 7");
        Lostroom room = withFind();
        c.is("it is KEPT", Lostroom.KEPT, room.ofFind(0, 0));
        c.is("in its room", 1, room.ofFind(0, 1));
        c.is("its last day is told from today", 70, room.ofFind(0, 2));
        c.is("its words", 7, room.ofFind(0, 3));
        c.is("its first hand", 1, room.ofFind(0, 4));
        c.is("the room of that", 1, room.hand(0, 0, false));
        c.is("the day of that is today", 10, room.hand(0, 0, true));
        c.is("the next number", 1, room.find(7, 9, 10, 0, 0xFFFFFF, 9999, 5));
        c.is("a kind that perishes", 11, room.ofFind(1, 2));
        c.is("all words hidden", 0, room.ofFind(1, 3));
        room.rule(7, 400, 0);
        c.is("all words, none hidden", 2, room.find(7, 0, 0, 0xFFFFFF, 0, 0, 0));
        c.is("a term told of a kind that perishes", 11, room.ofFind(2, 2));
        room.claim(1, 6, 7, 7, 0);
        c.is("the day on which it was found", 80, room.fit(0, 0));
        room.claim(1, 6, 8, 8, 0);
        c.is("not a later one", 60, room.fit(0, 1));
    }

    private static void findWithWrongArguments() {
        c.bounds("kind -1", FindsTest::onDayTen, r -> r.find(-1, 0, 0, 0, 0, 0, 0));
        c.bounds("kind 8", FindsTest::onDayTen, r -> r.find(8, 0, 0, 0, 0, 0, 0));
        c.bounds("place -1", FindsTest::onDayTen, r -> r.find(0, -1, 0, 0, 0, 0, 0));
        c.bounds("place 10", FindsTest::onDayTen, r -> r.find(0, 10, 0, 0, 0, 0, 0));
        c.bounds("room -1", FindsTest::onDayTen, r -> r.find(0, 0, 0, 0, 0, 0, -1));
        c.bounds("room 6", FindsTest::onDayTen, r -> r.find(0, 0, 0, 0, 0, 0, 6));
        c.bounds("no such room comes before all others", FindsTest::onDayTen, r -> r.find(0, 0, -1, -1, -1, -1, 6));
        c.argument("daysAgo -1", FindsTest::onDayTen, r -> r.find(0, 0, -1, 0, 0, 0, 0));
        c.argument("daysAgo 11", FindsTest::onDayTen, r -> r.find(0, 0, 11, 0, 0, 0, 0));
        c.argument("value -1", FindsTest::onDayTen, r -> r.find(0, 0, 0, 0, 0, -1, 0));
        c.argument("value 10000", FindsTest::onDayTen, r -> r.find(0, 0, 0, 0, 0, 10000, 0));
        c.argument("words -1", FindsTest::onDayTen, r -> r.find(0, 0, 0, -1, 0, 0, 0));
        c.argument("words with the word 24", FindsTest::onDayTen, r -> r.find(0, 0, 0, 1 << 24, 0, 0, 0));
        c.argument("secret below 0", FindsTest::onDayTen, r -> r.find(0, 0, 0, 0, Integer.MIN_VALUE, 0, 0));
        c.argument("secret with the word 24", FindsTest::onDayTen, r -> r.find(0, 0, 0, 0, 1 << 24 | 1, 0, 0));
        c.argument("a word in common", FindsTest::onDayTen, r -> r.find(0, 0, 0, 6, 12, 0, 0));
    }

    private static Lostroom withThirtyFinds() {
        Lostroom room = new Lostroom();
        for (int i = 0; i < 30; i++) room.find(0, 0, 0, 0, 0, 0, 0);
        return room;
    }

    private static void atMostThirty() {
        Lostroom room = new Lostroom();
        for (int i = 0; i < 30; i++) c.is("a number", i, room.find(0, 0, 0, 0, 0, 0, 0));
        c.is("thirty in a room", (1 << 30) - 1, room.audit(0));
        c.state("there are 30", FindsTest::withThirtyFinds, r -> r.find(0, 0, 0, 0, 0, 0, 0));
        c.argument("a wrong value comes before that", FindsTest::withThirtyFinds, r -> r.find(0, 0, 0, 0, 0, -1, 0));
        c.bounds("no such kind comes before that", FindsTest::withThirtyFinds, r -> r.find(8, 0, 0, 0, 0, 0, 0));
    }

    private static void see() {
        c.promise("promise 8");
        Lostroom room = withFind();
        c.is("a new word and an old one", 4, room.see(0, 33));
        c.is("its words", 39, room.ofFind(0, 3));
        c.is("no word", 4, room.see(0, 0));
        c.is("all that are not hidden", 22, room.see(0, 0xFFFFFF & ~24));
        c.bounds("find -1", FindsTest::withFind, r -> r.see(-1, 0));
        c.bounds("find 1", FindsTest::withFind, r -> r.see(1, -1));
        c.bounds("find 30", FindsTest::withFind, r -> r.see(30, 0));
        c.argument("words -1", FindsTest::withFind, r -> r.see(0, -1));
        c.argument("the word 24", FindsTest::withFind, r -> r.see(0, 1 << 24));
        c.argument("a hidden word", FindsTest::withFind, r -> r.see(0, 32 | 16));
        c.argument("a hidden word comes before not KEPT", FindsTest::withFindOnTheWay, r -> r.see(0, 8));
        c.state("ON_THE_WAY", FindsTest::withFindOnTheWay, r -> r.see(0, 32));
        c.state("MISSING", FindsTest::withMissingFind, r -> r.see(0, 32));
        c.state("RELEASED", FindsTest::withReleasedFind, r -> r.see(0, 32));
        c.state("DESTROYED", FindsTest::withDestroyedFind, r -> r.see(0, 32));
    }

    private static void send() {
        c.promise("promise 9");
        Lostroom room = withFind();
        room.hold(0, true);
        c.is("the room from which it goes", 1, room.send(0, 4));
        c.is("ON_THE_WAY", Lostroom.ON_THE_WAY, room.ofFind(0, 0));
        c.is("the room to which it goes", 4, room.ofFind(0, 1));
        c.is("not in the room any more", 0, room.audit(1));
        c.is("nor in the other one yet", 0, room.audit(4));
        c.is("no hand yet", 1, room.ofFind(0, 4));
        room.pass(3);
        c.is("KEPT", Lostroom.KEPT, room.ofFind(0, 0));
        c.is("it came", 1, room.audit(4));
        c.is("a hand", 2, room.ofFind(0, 4));
        c.is("of the next day", 11, room.hand(0, 1, true));
        c.is("in the other room", 4, room.hand(0, 1, false));
        c.is("it is held as before", true, room.hold(0, false));
        c.is("back", 4, room.send(0, 1));
        c.bounds("find -1", FindsTest::withFind, r -> r.send(-1, 0));
        c.bounds("find 1", FindsTest::withFind, r -> r.send(1, 0));
        c.bounds("room -1", FindsTest::withFind, r -> r.send(0, -1));
        c.bounds("room 6", FindsTest::withFind, r -> r.send(0, 6));
        c.bounds("no such room comes before not KEPT", FindsTest::withFindOnTheWay, r -> r.send(0, 6));
        c.state("it is there", FindsTest::withFind, r -> r.send(0, 1));
        c.state("ON_THE_WAY", FindsTest::withFindOnTheWay, r -> r.send(0, 1));
        c.state("MISSING", FindsTest::withMissingFind, r -> r.send(0, 1));
        c.state("RELEASED", FindsTest::withReleasedFind, r -> r.send(0, 0));
    }

    private static void lose() {
        c.promise("promise 10");
        Lostroom room = new Lostroom();
        for (int i = 0; i < 4; i++) room.find(0, 0, 0, 0, 0, 0, i == 3 ? 4 : 0);
        room.send(0, 4);
        room.send(1, 4);
        room.send(2, 5);
        c.is("none on the way to a room", 0, room.lose(0));
        c.is("two on the way to another", 2, room.lose(4));
        c.is("none any more", 0, room.lose(4));
        c.is("MISSING", Lostroom.MISSING, room.ofFind(0, 0));
        c.is("MISSING, too", Lostroom.MISSING, room.ofFind(1, 0));
        c.is("the room to which it went", 4, room.ofFind(1, 1));
        c.is("ON_THE_WAY to another room", Lostroom.ON_THE_WAY, room.ofFind(2, 0));
        c.is("KEPT there", Lostroom.KEPT, room.ofFind(3, 0));
        room.pass(2);
        c.is("what is MISSING does not come", Lostroom.MISSING, room.ofFind(0, 0));
        c.is("but what was on the way", 4, room.audit(5));
        c.bounds("room -1", FindsTest::withFindOnTheWay, r -> r.lose(-1));
        c.bounds("room 6", FindsTest::withFindOnTheWay, r -> r.lose(6));
    }

    private static void turnUp() {
        c.promise("promise 11");
        Lostroom room = withMissingFind();
        room.pass(5);
        c.is("its hands", 2, room.turnUp(0, 3));
        c.is("KEPT", Lostroom.KEPT, room.ofFind(0, 0));
        c.is("its room", 3, room.ofFind(0, 1));
        c.is("the day of its hand is today", 15, room.hand(0, 1, true));
        c.is("the room of its hand", 3, room.hand(0, 1, false));
        c.is("where it set off", 2, withMissingFind().turnUp(0, 1));
        c.bounds("find -1", FindsTest::withMissingFind, r -> r.turnUp(-1, 0));
        c.bounds("find 1", FindsTest::withMissingFind, r -> r.turnUp(1, 0));
        c.bounds("room -1", FindsTest::withMissingFind, r -> r.turnUp(0, -1));
        c.bounds("room 6", FindsTest::withMissingFind, r -> r.turnUp(0, 6));
        c.bounds("no such room comes before not MISSING", FindsTest::withFind, r -> r.turnUp(0, 6));
        c.state("KEPT", FindsTest::withFind, r -> r.turnUp(0, 0));
        c.state("ON_THE_WAY", FindsTest::withFindOnTheWay, r -> r.turnUp(0, 0));
        c.state("DESTROYED", FindsTest::withDestroyedFind, r -> r.turnUp(0, 0));
    }

    private static void hold() {
        c.promise("promise 12");
        Lostroom room = withFind();
        c.is("not held at first", false, room.hold(0, false));
        c.is("still not", false, room.hold(0, true));
        c.is("held", true, room.hold(0, true));
        room.send(0, 2);
        c.is("held on the way", true, room.hold(0, false));
        room.lose(2);
        c.is("not held while missing", false, room.hold(0, true));
        room.turnUp(0, 2);
        room.pass(100);
        c.is("the term of what is held is not over", false, room.isDue(0));
        c.is("held for long", true, room.hold(0, false));
        c.is("its term is over", true, room.isDue(0));
        c.bounds("find -1", FindsTest::withFind, r -> r.hold(-1, true));
        c.bounds("find 1", FindsTest::withFind, r -> r.hold(1, true));
        c.state("RELEASED", FindsTest::withReleasedFind, r -> r.hold(0, true));
        c.state("DESTROYED", FindsTest::withDestroyedFind, r -> r.hold(0, false));
    }

    private static void handsThatAreKept() {
        c.promise("finds: the first hand and the latest 11");
        Lostroom room = new Lostroom();
        room.find(0, 0, 0, 0, 0, 0, 5);
        for (int i = 1; i <= 20; i++) {
            room.send(0, i % 2);
            room.pass(2);
            c.is("hands after " + i, Math.min(12, i + 1), room.ofFind(0, 4));
        }
        c.is("the room of the first one", 5, room.hand(0, 0, false));
        c.is("the day of the first one", 0, room.hand(0, 0, true));
        for (int place = 1; place <= 11; place++) {
            int i = place + 9;
            c.is("a later room", i % 2, room.hand(0, place, false));
            c.is("a later day", 2 * i - 1, room.hand(0, place, true));
        }
        room.send(0, 3);
        room.lose(3);
        c.is("what turns up has no more", 12, room.turnUp(0, 4));
        c.is("but the latest", 4, room.hand(0, 11, false));
    }
}
