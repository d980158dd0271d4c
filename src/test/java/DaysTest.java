/** Days: the first and the last, the next one, last days of terms, 90 days until ERASED, 365 days of paying out. */
public final class DaysTest {
    private static final Checks c = new Checks();

    public static void main(String[] args) {
        passing();
        theLastDay();
        refusedPassing();
        lastDays();
        termsThatAreOver();
        extended();
        extendedRefused();
        bags();
        bagsOfTheLastDay();
        missingDoesNotCome();
        erasedByOnePass();
        erasedDayByDay();
        erasedIsNotToldAnew();
        payingOut();
        c.end();
    }

    private static void passing() {
        c.promise("promise 22: returns today");
        Lostroom room = new Lostroom();
        c.is("the first day", 0, room.today());
        c.is("one day", 1, room.pass(1));
        c.is("two days", 3, room.pass(2));
        c.is("400 days", 403, room.pass(400));
        c.is("399 days", 802, room.pass(399));
        c.is("today", 802, room.today());
    }

    private static void theLastDay() {
        c.promise("days are numbered from 0, to 9999; refused if it would be above that");
        for (int days = 1; days <= 400; days += 133) {
            int some = days;
            c.is("to the last day by " + days, 9999, Rooms.onDay(9999 - days).pass(days));
            c.state("a day more by " + days, () -> Rooms.onDay(10000 - some), r -> r.pass(some));
        }
        c.state("on the last day", () -> Rooms.onDay(9999), r -> r.pass(1));
        c.state("on the last day, 400", () -> Rooms.onDay(9999), r -> r.pass(400));
        Lostroom room = Rooms.onDay(9999);
        c.is("today", 9999, room.today());
        c.is("a find of the last day", 0, room.find(0, 0, 0, 0, 0, 0, 0));
        c.is("its hand", 9999, room.hand(0, 0, true));
        c.is("its last day is beyond", 10059, room.ofFind(0, 2));
        c.is("extended beyond", 10364, room.extend(0, 365));
        c.is("a claim of the last day", 0, room.claim(0, 0, 9999, 9999, 0));
        c.is("their fit", 80, room.fit(0, 0));
        c.is("withdrawn", 9999, room.withdraw(0));
    }

    /** On the day 9900, one bag is on the way, and a claim that was withdrawn 89 days ago. */
    private static Lostroom nearTheLastDay() {
        Lostroom room = Rooms.onDay(9811);
        room.find(0, 0, 0, 0, 0, 0, 0);
        room.claim(0, 0, 0, 0, 1);
        room.withdraw(0);
        room.pass(89);
        room.send(0, 1);
        return room;
    }

    private static void refusedPassing() {
        c.promise("promise 22: a pass that is refused brings nothing and erases nothing");
        c.state("one day too many", DaysTest::nearTheLastDay, r -> r.pass(100));
        c.argument("no day", DaysTest::nearTheLastDay, r -> r.pass(0));
        c.argument("a day back", DaysTest::nearTheLastDay, r -> r.pass(-1));
        c.argument("401 days", DaysTest::nearTheLastDay, r -> r.pass(401));
        Lostroom room = nearTheLastDay();
        c.is("to the last day", 9999, room.pass(99));
        c.is("it came on the next day", 9901, room.hand(0, 1, true));
        c.is("ERASED", Lostroom.ERASED, room.ofClaim(0, 0));
    }

    private static void lastDays() {
        c.promise("its last day is that on which it was told, and the term of its kind as it was then, together");
        int[] days = {0, 1, 10, 9999};
        int[] terms = {1, 2, 60, 399, 400};
        for (int day : days) {
            for (int term : terms) {
                Lostroom room = Rooms.onDay(day);
                room.rule(6, term, 0);
                room.find(6, 0, 0, 0, 0, 0, 0);
                room.find(6, 0, day, 0, 0, 0, 0);
                room.rule(6, 77, 0);
                c.is("term " + term + " on the day " + day, day + term, room.ofFind(0, 2));
                c.is("found on the day 0", day + term, room.ofFind(1, 2));
                room.rule(7, term, 0);
                room.find(7, 0, 0, 0, 0, 0, 0);
                c.is("1 day for one that perishes", day + 1, room.ofFind(2, 2));
            }
        }
    }

    /** The find 0 has the term that is told, the find 1 perishes. */
    private static Lostroom withTerm(int term, int days) {
        Lostroom room = new Lostroom();
        room.rule(0, term, 0);
        room.find(0, 0, 0, 0, 0, 0, 3);
        room.find(7, 0, 0, 0, 0, 0, 4);
        Rooms.passTo(room, days);
        return room;
    }

    private static void termsThatAreOver() {
        c.promise("a find's term is over, if today is a later day than its last day");
        for (int term : new int[] {1, 2, 60, 400}) {
            c.is("a day before its last day", false, withTerm(term, term - 1).isDue(0));
            c.is("on its last day", false, withTerm(term, term).isDue(0));
            c.is("on the next day", true, withTerm(term, term + 1).isDue(0));
            c.is("much later", true, withTerm(term, term + 2000).isDue(0));
            c.state("sell on its last day", () -> withTerm(term, term), r -> r.sell(0, 1));
            c.state("destroy on its last day", () -> withTerm(term, term), r -> r.destroy(0));
            c.is("sell on the next day", 1, withTerm(term, term + 1).sell(0, 1));
            c.is("destroy on the next day", 3, withTerm(term, term + 1).destroy(0));
        }
        c.is("it perishes, on the day it is told", false, withTerm(400, 0).isDue(1));
        c.is("on its last day", false, withTerm(400, 1).isDue(1));
        c.is("on the next day", true, withTerm(400, 2).isDue(1));
        c.state("destroy on its last day", () -> withTerm(400, 1), r -> r.destroy(1));
        c.is("destroy on the next day", 4, withTerm(400, 2).destroy(1));
        c.state("sell on the next day", () -> withTerm(400, 2), r -> r.sell(1, 1));
    }

    private static void extended() {
        c.promise("promise 18: so many days later than today, if it was an earlier one");
        int[] days = {1, 39, 40, 41, 42, 365};
        for (int day : days) {
            Lostroom room = withTerm(60, 20);
            c.is("extended by " + day, Math.max(60, 20 + day), room.extend(0, day));
            c.is("its last day", Math.max(60, 20 + day), room.ofFind(0, 2));
            c.is("extended again by " + day, Math.max(60, 20 + day), room.extend(0, day));
            c.is("by one", Math.max(60, 20 + day), room.extend(0, 1));
            Rooms.passTo(room, Math.max(60, 20 + day));
            c.is("on its last day", false, room.isDue(0));
            room.pass(1);
            c.is("on the next day", true, room.isDue(0));
            c.is("after its term", room.today() + 1, room.extend(0, 1));
            c.is("due no more", false, room.isDue(0));
        }
    }

    private static void extendedRefused() {
        c.promise("promise 18: refused if it perishes");
        c.state("before its last day", () -> withTerm(60, 0), r -> r.extend(1, 1));
        c.state("on its last day", () -> withTerm(60, 1), r -> r.extend(1, 1));
        c.state("after it", () -> withTerm(60, 2), r -> r.extend(1, 365));
        c.taken("held", () -> Rooms.withFinds(1), r -> {
            r.hold(0, true);
            r.extend(0, 1);
        });
    }

    private static void bags() {
        c.promise("promise 9: it comes there on the next day");
        for (int days : new int[] {1, 2, 400}) {
            Lostroom room = Rooms.onDay(5);
            room.find(0, 0, 0, 0, 0, 0, 0);
            room.pass(3);
            c.is("the room from which it goes", 0, room.send(0, 5));
            c.is("not yet", Lostroom.ON_THE_WAY, room.ofFind(0, 0));
            c.is("no hand yet", 1, room.ofFind(0, 4));
            room.pass(days);
            c.is("KEPT after " + days, Lostroom.KEPT, room.ofFind(0, 0));
            c.is("its hands", 2, room.ofFind(0, 4));
            c.is("it came on the next day", 9, room.hand(0, 1, true));
            c.is("to the room", 5, room.hand(0, 1, false));
            c.is("back at once", 5, room.send(0, 0));
            room.pass(1);
            c.is("it came back", 9 + days, room.hand(0, 2, true));
        }
    }

    private static void bagsOfTheLastDay() {
        c.promise("promise 9: a bag of the last day");
        Lostroom room = Rooms.onDay(9998);
        room.find(0, 0, 0, 0, 0, 0, 0);
        room.find(0, 0, 0, 0, 0, 0, 0);
        room.send(0, 1);
        room.pass(1);
        c.is("it came on the last day", 9999, room.hand(0, 1, true));
        room.send(1, 1);
        c.is("it does not come any more", Lostroom.ON_THE_WAY, room.ofFind(1, 0));
        c.is("but can be lost", 1, room.lose(1));
        c.is("and turn up", 2, room.turnUp(1, 0));
        c.is("on the last day", 9999, room.hand(1, 1, true));
    }

    private static void missingDoesNotCome() {
        c.promise("promises 10 and 11: what is MISSING comes on no day, and turns up today");
        Lostroom room = Rooms.withFinds(1);
        room.send(0, 1);
        room.lose(1);
        room.pass(400);
        c.is("MISSING for long", Lostroom.MISSING, room.ofFind(0, 0));
        c.is("it went there", 1, room.ofFind(0, 1));
        c.is("not over", false, room.isDue(0));
        c.is("turned up", 2, room.turnUp(0, 2));
        c.is("today", 400, room.hand(0, 1, true));
        c.is("its term went on", true, room.isDue(0));
        room.pass(1);
        c.is("no other hand", 2, room.ofFind(0, 4));
        c.is("it stays there", 1, room.audit(2));
        Lostroom same = Rooms.withFinds(1);
        same.send(0, 1);
        same.lose(1);
        c.is("it turns up where it went, on the same day", 2, same.turnUp(0, 1));
        c.is("on that day", 0, same.hand(0, 1, true));
    }

    /** On the day 11: the claim 0 is SERVED by release, 1 by payOut, 2 is CLOSED, 3 is OPEN; each tells the word 1. */
    private static Lostroom withEndedClaims() {
        Lostroom room = new Lostroom();
        room.rule(0, 1, 0);
        room.find(0, 0, 0, 1, 0, 0, 0);
        room.find(0, 0, 0, 1, 0, 0, 0);
        room.pass(11);
        room.sell(1, 40);
        for (int i = 0; i < 4; i++) {
            room.claim(0, 0, 0, 0, 1);
            room.tell(i, 2);
        }
        room.release(0, 0);
        room.payOut(1, 1);
        room.withdraw(2);
        return room;
    }

    private static final int[] ENDED = {Lostroom.SERVED, Lostroom.SERVED, Lostroom.CLOSED, Lostroom.OPEN};
    private static final int[] SERVED_BY = {0, 1, Lostroom.NONE, Lostroom.NONE};

    private static void endedOrErased(String when, Lostroom room, boolean isErased) {
        for (int i = 0; i < 4; i++) {
            boolean isGone = isErased && i < 3;
            String what = when + ", claim " + i;
            c.is("state " + what, isGone ? Lostroom.ERASED : ENDED[i], room.ofClaim(i, 0));
            c.is("words " + what, isGone ? 0 : 3, room.ofClaim(i, 1));
            c.is("told " + what, isGone ? 0 : 2, room.ofClaim(i, 2));
            c.is("find " + what, SERVED_BY[i], room.ofClaim(i, 3));
            c.is("fit " + what, isGone ? 80 : 85, room.fit(0, i));
        }
    }

    private static void erasedByOnePass() {
        c.promise("what was SERVED or CLOSED is ERASED 90 days later");
        for (int days : new int[] {1, 89, 90, 91, 400}) {
            Lostroom room = withEndedClaims();
            room.pass(days);
            endedOrErased("after " + days, room, days >= 90);
        }
    }

    private static void erasedDayByDay() {
        Lostroom room = withEndedClaims();
        for (int days = 1; days <= 92; days++) {
            room.pass(1);
            if (days == 1 || days >= 88) endedOrErased("on the day " + days, room, days >= 90);
        }
        Lostroom late = Rooms.onDay(9909);
        late.claim(0, 0, 0, 0, 1);
        late.withdraw(0);
        late.pass(89);
        c.is("a day before the last", Lostroom.CLOSED, late.ofClaim(0, 0));
        late.pass(1);
        c.is("on the last day", Lostroom.ERASED, late.ofClaim(0, 0));
    }

    private static void erasedIsNotToldAnew() {
        c.promise("what is OPEN for long is not ERASED, but 90 days after it ended");
        Lostroom room = Rooms.withClaims(1);
        room.pass(300);
        c.is("OPEN", Lostroom.OPEN, room.ofClaim(0, 0));
        c.is("withdrawn today", 300, room.withdraw(0));
        room.pass(89);
        c.is("CLOSED", Lostroom.CLOSED, room.ofClaim(0, 0));
        room.pass(1);
        c.is("ERASED", Lostroom.ERASED, room.ofClaim(0, 0));
        c.state("withdrawn again", DaysTest::withErased, r -> r.withdraw(0));
        Lostroom first = Rooms.withClaims(1);
        first.withdraw(0);
        first.pass(89);
        c.is("ended on the day 0", Lostroom.CLOSED, first.ofClaim(0, 0));
        first.pass(1);
        c.is("ERASED on the day 90", Lostroom.ERASED, first.ofClaim(0, 0));
    }

    private static Lostroom withErased() {
        Lostroom room = Rooms.withClaims(1);
        room.withdraw(0);
        room.pass(90);
        return room;
    }

    /** The find 0 was sold so many days ago; the claim 0 proves it. */
    private static Lostroom soldAgo(int days, boolean isLate) {
        Lostroom room = Rooms.withFindThatIs(Lostroom.SOLD);
        if (!isLate) Rooms.anOwner(room);
        Rooms.passTo(room, 12 + days);
        if (isLate) Rooms.anOwner(room);
        return room;
    }

    private static void payingOut() {
        c.promise("promise 21: refused if it was SOLD more than 365 days ago");
        for (int days : new int[] {0, 1, 364, 365}) {
            c.is("after " + days, 35, soldAgo(days, false).payOut(0, 0));
            c.is("to a claim of today after " + days, 35, soldAgo(days, true).payOut(0, 0));
        }
        for (int days : new int[] {366, 367, 1000}) {
            c.state("after " + days, () -> soldAgo(days, false), r -> r.payOut(0, 0));
            c.state("to a claim of today after " + days, () -> soldAgo(days, true), r -> r.payOut(0, 0));
            c.is("its price stays kept", 40, soldAgo(days, true).money(2));
        }
    }
}
