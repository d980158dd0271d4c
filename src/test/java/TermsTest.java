/** Promises 18 to 22. */
public final class TermsTest {
    private static final Checks c = new Checks();

    public static void main(String[] args) {
        extend();
        sell();
        destroy();
        payOut();
        payOutOfSmallPrices();
        payOutThatIsRefused();
        pass();
        erased();
        c.end();
    }

    /** A find of the term 10, told on the day 0, and one of the kind that perishes. */
    private static Lostroom withFinds() {
        Lostroom room = new Lostroom();
        room.rule(0, 10, 0);
        room.find(0, 0, 0, 1, 6, 50, 3);
        room.find(7, 0, 0, 1, 0, 50, 4);
        return room;
    }

    private static Lostroom after(int days) {
        Lostroom room = withFinds();
        room.pass(days);
        return room;
    }

    private static Lostroom withSold() {
        Lostroom room = after(11);
        room.sell(0, 40);
        return room;
    }

    private static Lostroom withDestroyed() {
        Lostroom room = after(11);
        room.destroy(0);
        return room;
    }

    private static Lostroom withSent() {
        Lostroom room = after(11);
        room.send(0, 0);
        return room;
    }

    private static void extend() {
        c.promise("promise 18");
        Lostroom room = withFinds();
        c.is("an earlier day", 10, room.extend(0, 1));
        c.is("the same day", 10, room.extend(0, 10));
        c.is("a later day", 11, room.extend(0, 11));
        c.is("the farthest day", 365, room.extend(0, 365));
        c.is("its last day", 365, room.ofFind(0, 2));
        Lostroom over = after(11);
        c.is("over", true, over.isDue(0));
        c.is("a term that was over", 12, over.extend(0, 1));
        c.is("over no more", false, over.isDue(0));
        Lostroom sent = withSent();
        c.is("ON_THE_WAY", 16, sent.extend(0, 5));
        sent.lose(0);
        c.is("MISSING", 17, sent.extend(0, 6));
        c.bounds("find -1", TermsTest::withFinds, r -> r.extend(-1, 1));
        c.bounds("find 2", TermsTest::withFinds, r -> r.extend(2, 0));
        c.argument("days 0", TermsTest::withFinds, r -> r.extend(0, 0));
        c.argument("days -1", TermsTest::withFinds, r -> r.extend(0, -1));
        c.argument("days 366", TermsTest::withFinds, r -> r.extend(0, 366));
        c.argument("wrong days come before one that perishes", TermsTest::withFinds, r -> r.extend(1, 366));
        c.state("one that perishes", TermsTest::withFinds, r -> r.extend(1, 100));
        c.state("SOLD", TermsTest::withSold, r -> r.extend(0, 100));
        c.state("DESTROYED", TermsTest::withDestroyed, r -> r.extend(0, 100));
    }

    private static Lostroom overButHeld() {
        Lostroom room = after(11);
        room.hold(0, true);
        return room;
    }

    private static Lostroom overButWanted() {
        Lostroom room = after(11);
        room.claim(0, 0, 0, 0, 0);
        return room;
    }

    private static void sell() {
        c.promise("promise 19");
        Lostroom room = after(11);
        c.is("all proceeds", 40, room.sell(0, 40));
        c.is("SOLD", Lostroom.SOLD, room.ofFind(0, 0));
        c.is("the room in which it was last", 3, room.ofFind(0, 1));
        c.is("not there any more", 0, room.audit(3));
        c.is("no fee", 0, room.money(0));
        c.is("the proceeds", 40, room.money(2));
        room.rule(0, 1, 0);
        room.find(0, 0, 0, 0, 0, 0, 0);
        room.pass(2);
        c.is("the proceeds of both", 10039, room.sell(2, 9999));
        Lostroom wanted = overButWanted();
        wanted.withdraw(0);
        c.is("no more wanted", 1, wanted.sell(0, 1));
        c.bounds("find -1", () -> after(11), r -> r.sell(-1, 1));
        c.bounds("find 2", () -> after(11), r -> r.sell(2, 0));
        c.argument("price 0", () -> after(11), r -> r.sell(0, 0));
        c.argument("price 10000", () -> after(11), r -> r.sell(0, 10000));
        c.argument("a wrong price comes before a term that is not over", () -> after(10), r -> r.sell(0, -1));
        c.state("on its last day", () -> after(10), r -> r.sell(0, 1));
        c.state("one that perishes", () -> after(11), r -> r.sell(1, 1));
        c.state("held", TermsTest::overButHeld, r -> r.sell(0, 1));
        c.state("a candidate", TermsTest::overButWanted, r -> r.sell(0, 1));
        c.state("ON_THE_WAY", TermsTest::withSent, r -> r.sell(0, 1));
        c.state("SOLD", TermsTest::withSold, r -> r.sell(0, 1));
    }

    private static void destroy() {
        c.promise("promise 20");
        Lostroom room = after(11);
        c.is("the room", 3, room.destroy(0));
        c.is("DESTROYED", Lostroom.DESTROYED, room.ofFind(0, 0));
        c.is("the room in which it was last", 3, room.ofFind(0, 1));
        c.is("not there any more", 0, room.audit(3));
        c.is("one that perishes", 4, after(2).destroy(1));
        c.bounds("find -1", () -> after(11), r -> r.destroy(-1));
        c.bounds("find 2", () -> after(11), r -> r.destroy(2));
        c.state("on its last day", () -> after(10), r -> r.destroy(0));
        c.state("one that perishes on its last day", () -> after(1), r -> r.destroy(1));
        c.state("held", TermsTest::overButHeld, r -> r.destroy(0));
        c.state("a candidate", TermsTest::overButWanted, r -> r.destroy(0));
        c.state("ON_THE_WAY", TermsTest::withSent, r -> r.destroy(0));
        c.state("SOLD", TermsTest::withSold, r -> r.destroy(0));
        c.state("DESTROYED", TermsTest::withDestroyed, r -> r.destroy(0));
    }

    /** The find 0 was sold on the day 11; a claim that comes after so many days proves it. */
    private static Lostroom withLateOwner(int price, int days) {
        Lostroom room = after(11);
        room.sell(0, price);
        for (int left = days; left > 0; left -= 300) room.pass(Math.min(left, 300));
        room.claim(0, 0, 0, 0, 0);
        room.tell(0, 6);
        return room;
    }

    private static void payOut() {
        c.promise("promise 21");
        Lostroom room = withLateOwner(40, 365);
        c.is("the price less the fee", 35, room.payOut(0, 0));
        c.is("PAID_OUT", Lostroom.PAID_OUT, room.ofFind(0, 0));
        c.is("the room in which it was last", 3, room.ofFind(0, 1));
        c.is("SERVED", Lostroom.SERVED, room.ofClaim(0, 0));
        c.is("by it", 0, room.ofClaim(0, 3));
        c.is("fees", 5, room.money(0));
        c.is("no reward", 0, room.money(1));
        c.is("nothing is kept", 0, room.money(2));
        Lostroom two = withLateOwner(40, 1);
        two.rule(0, 1, 0);
        two.find(0, 9, 12, 0, 0, 0, 0);
        two.pass(2);
        two.threshold(85);
        c.is("another one is sold", 47, two.sell(2, 7));
        c.is("the first one is paid out", 35, two.payOut(0, 0));
        c.is("the price of the other one is kept", 7, two.money(2));
        two.pass(89);
        c.is("not erased yet", Lostroom.SERVED, two.ofClaim(0, 0));
        two.pass(1);
        c.is("erased later", Lostroom.ERASED, two.ofClaim(0, 0));
        c.is("but not the find", 0, two.ofClaim(0, 3));
    }

    private static void payOutOfSmallPrices() {
        for (int price = 1; price <= 7; price++) {
            Lostroom room = withLateOwner(price, 0);
            c.is("what is paid of " + price, Math.max(0, price - 5), room.payOut(0, 0));
            c.is("the fee of " + price, Math.min(5, price), room.money(0));
            c.is("kept of " + price, 0, room.money(2));
        }
    }

    private static Lostroom withWeakOwner() {
        Lostroom room = withSold();
        room.claim(0, 0, 0, 0, 0);
        room.tell(0, 2);
        return room;
    }

    private static Lostroom withStranger() {
        Lostroom room = withSold();
        room.claim(1, 0, 0, 0, 0);
        room.tell(0, 6);
        return room;
    }

    private static Lostroom withWithdrawnOwner() {
        Lostroom room = withLateOwner(40, 0);
        room.withdraw(0);
        return room;
    }

    private static Lostroom withTwoOwners() {
        Lostroom room = withLateOwner(40, 0);
        room.claim(0, 0, 0, 0, 1);
        room.tell(1, 6);
        return room;
    }

    private static Lostroom paidOut() {
        Lostroom room = withTwoOwners();
        room.payOut(0, 1);
        return room;
    }

    private static Lostroom withOwnerOfKept() {
        Lostroom room = withFinds();
        room.claim(0, 0, 0, 0, 0);
        room.tell(0, 6);
        return room;
    }

    private static void payOutThatIsRefused() {
        c.bounds("find -1", () -> withLateOwner(40, 0), r -> r.payOut(-1, 0));
        c.bounds("find 2", () -> withLateOwner(40, 0), r -> r.payOut(2, 0));
        c.bounds("claim -1", () -> withLateOwner(40, 0), r -> r.payOut(0, -1));
        c.bounds("claim 1", () -> withLateOwner(40, 0), r -> r.payOut(0, 1));
        c.state("KEPT", TermsTest::withOwnerOfKept, r -> r.payOut(0, 0));
        c.state("more than 365 days ago", () -> withLateOwner(40, 366), r -> r.payOut(0, 0));
        c.state("no proof", TermsTest::withWeakOwner, r -> r.payOut(0, 0));
        c.state("no candidate", TermsTest::withStranger, r -> r.payOut(0, 0));
        c.state("CLOSED", TermsTest::withWithdrawnOwner, r -> r.payOut(0, 0));
        c.state("beaten", TermsTest::withTwoOwners, r -> r.payOut(0, 0));
        c.state("PAID_OUT", TermsTest::paidOut, r -> r.payOut(0, 0));
        c.is("the better owner is paid", 35, withTwoOwners().payOut(0, 1));
    }

    private static Lostroom onDay(int day) {
        Lostroom room = new Lostroom();
        while (room.today() < day) room.pass(Math.min(400, day - room.today()));
        return room;
    }

    private static void pass() {
        c.promise("promise 22");
        Lostroom room = new Lostroom();
        c.is("one day", 1, room.pass(1));
        c.is("the most days", 401, room.pass(400));
        c.is("today", 401, room.today());
        Lostroom last = onDay(9998);
        c.is("the last day", 9999, last.pass(1));
        c.argument("days 0", Lostroom::new, r -> r.pass(0));
        c.argument("days -1", Lostroom::new, r -> r.pass(-1));
        c.argument("days 401", Lostroom::new, r -> r.pass(401));
        c.argument("far too many", Lostroom::new, r -> r.pass(Integer.MAX_VALUE));
        c.argument("wrong days come before the last day", () -> onDay(9999), r -> r.pass(401));
        c.state("beyond the last day", () -> onDay(9999), r -> r.pass(1));
        c.state("just beyond the last day", () -> onDay(9900), r -> r.pass(100));
        c.is("just the last day", 9999, onDay(9900).pass(99));
        Lostroom late = onDay(9999);
        late.find(0, 0, 9999, 0, 0, 0, 0);
        c.is("a last day beyond the last day", 10059, late.ofFind(0, 2));
        c.is("extended beyond it", 10364, late.extend(0, 365));
    }

    private static void erased() {
        c.promise("claims: ERASED");
        Lostroom room = new Lostroom();
        room.pass(5);
        room.find(0, 0, 0, 1, 0, 0, 0);
        room.claim(0, 0, 0, 5, 1);
        room.claim(0, 0, 0, 5, 1);
        room.claim(1, 0, 0, 5, 1);
        room.tell(0, 2);
        room.tell(1, 2);
        room.release(0, 0);
        room.pass(10);
        room.withdraw(1);
        room.pass(79);
        c.is("SERVED for 89 days", Lostroom.SERVED, room.ofClaim(0, 0));
        c.is("its words", 3, room.ofClaim(0, 1));
        c.is("those told", 2, room.ofClaim(0, 2));
        room.pass(1);
        c.is("ERASED on the 90th", Lostroom.ERASED, room.ofClaim(0, 0));
        c.is("its words are gone", 0, room.ofClaim(0, 1));
        c.is("those told are gone", 0, room.ofClaim(0, 2));
        c.is("the find is not", 0, room.ofClaim(0, 3));
        c.is("its fit without words", 80, room.fit(0, 0));
        c.is("the other one is CLOSED", Lostroom.CLOSED, room.ofClaim(1, 0));
        c.is("its words stay", 3, room.ofClaim(1, 1));
        room.pass(100);
        c.is("ERASED in the midst of days", Lostroom.ERASED, room.ofClaim(1, 0));
        c.is("its words are gone, too", 0, room.ofClaim(1, 1));
        c.is("served by none", Lostroom.NONE, room.ofClaim(1, 3));
        c.is("what is OPEN stays so", Lostroom.OPEN, room.ofClaim(2, 0));
        c.is("with its words", 1, room.ofClaim(2, 1));
    }
}
