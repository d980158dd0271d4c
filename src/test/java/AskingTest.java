/** Promises 23 to 33, and the scores. */
public final class AskingTest {
    private static final Checks c = new Checks();

    public static void main(String[] args) {
        today();
        fitOfKindsAndPlaces();
        fitOfDays();
        fitOfWords();
        fitOfHiddenWords();
        fitAtLeastZero();
        candidate();
        candidatesThatAreHere();
        question();
        isProven();
        isDue();
        ofFind();
        hand();
        ofClaim();
        money();
        audit();
        c.end();
    }

    private static Lostroom withBoth() {
        Lostroom room = new Lostroom();
        room.find(0, 0, 0, 0, 0, 0, 0);
        room.claim(0, 0, 0, 0, 0);
        return room;
    }

    private static void today() {
        c.promise("promise 23");
        Lostroom room = new Lostroom();
        c.is("the first day", 0, room.today());
        room.pass(7);
        c.is("a later day", 7, room.today());
        c.is("the same when asked again", 7, room.today());
    }

    private static void fitOfKindsAndPlaces() {
        c.promise("promise 24");
        Lostroom room = new Lostroom();
        room.stop(0, 1);
        room.stop(0, 2);
        room.stop(1, 2);
        room.stop(2, 3);
        for (int place = 0; place < 10; place++) room.find(0, place, 0, 0, 0, 0, 0);
        int[] places = {1, 2, 6, 7, 8, 9};
        String[] common = {"1 6", "2 6 7", "1 2 6 7", "2 6 7", "3 8", "9"};
        for (int i = 0; i < places.length; i++) {
            room.claim(0, places[i], 0, 0, 0);
            for (int place = 0; place < 10; place++) {
                boolean has = (" " + common[i] + " ").contains(" " + place + " ");
                int want = 60 + (place == places[i] ? 20 : has ? 10 : 0);
                c.is("fit of the places " + place + " and " + places[i], want, room.fit(place, i));
            }
        }
        room.claim(1, 0, 0, 0, 0);
        c.is("another kind", Lostroom.NONE, room.fit(0, 6));
        room.alike(0, 1);
        c.is("an alike kind", 55, room.fit(0, 6));
        room.alike(1, 2);
        room.claim(2, 0, 0, 0, 0);
        c.is("alike to an alike one is not alike", Lostroom.NONE, room.fit(0, 7));
        c.bounds("find -1", AskingTest::withBoth, r -> r.fit(-1, 0));
        c.bounds("find 1", AskingTest::withBoth, r -> r.fit(1, 0));
        c.bounds("claim -1", AskingTest::withBoth, r -> r.fit(0, -1));
        c.bounds("claim 1", AskingTest::withBoth, r -> r.fit(0, 1));
    }

    private static void fitOfDays() {
        Lostroom room = new Lostroom();
        room.pass(30);
        room.claim(0, 0, 10, 12, 0);
        int[] days = {8, 9, 10, 11, 12, 13, 14, 21, 22, 23, 30};
        int[] points = {0, 0, 20, 20, 20, 18, 16, 2, 0, 0, 0};
        for (int i = 0; i < days.length; i++) {
            room.find(0, 0, 30 - days[i], 0, 0, 0, 0);
            c.is("fit of the day " + days[i], 60 + points[i], room.fit(i, 0));
        }
    }

    private static void fitOfWords() {
        Lostroom room = new Lostroom();
        room.near(1, 5);
        room.near(0, 6);
        room.near(0, 1);
        room.near(5, 7);
        room.find(0, 0, 0, 3, 0, 0, 0);
        int[] words = {0, 1, 3, 1 << 5, 1 << 6, 1 << 7, 1 << 8, 1 << 5 | 1 << 6 | 1 << 8 | 1};
        int[] points = {0, 6, 12, 3, 3, -1, -1, 11};
        for (int i = 0; i < words.length; i++) {
            room.claim(0, 0, 0, 0, words[i]);
            c.is("fit of the words " + words[i], 80 + points[i], room.fit(0, i));
        }
        room.near(0, 5);
        c.is("near to both counts once", 83, room.fit(0, 3));
        c.is("seen words count", 1, room.see(0, 1 << 8) - 2);
        c.is("from now on", 86, room.fit(0, 6));
    }

    private static void fitOfHiddenWords() {
        Lostroom room = new Lostroom();
        room.near(3, 9);
        room.find(0, 0, 0, 1, 24, 0, 0);
        room.claim(0, 0, 0, 0, 8);
        c.is("a hidden word that is only said", 79, room.fit(0, 0));
        room.say(0, 1 << 9);
        c.is("near a hidden word that is not told", 78, room.fit(0, 0));
        room.tell(0, 8);
        c.is("a hidden word that is told, and one near to it", 89, room.fit(0, 0));
        room.say(0, 16);
        c.is("another one that is only said", 88, room.fit(0, 0));
        room.tell(0, 16);
        c.is("and told", 95, room.fit(0, 0));
        room.tell(0, 1 << 10);
        c.is("told, but of the find in no way", 94, room.fit(0, 0));
    }

    private static void fitAtLeastZero() {
        Lostroom room = new Lostroom();
        room.alike(0, 1);
        room.pass(1);
        room.find(0, 0, 1, 0, 0, 0, 0);
        room.claim(1, 1, 1, 1, (1 << 14) - 1);
        c.is("fit of 14 words that fail", 1, room.fit(0, 0));
        room.say(0, 1 << 14);
        c.is("fit of 15 words that fail", 0, room.fit(0, 0));
        room.say(0, 0xFFFFFF);
        c.is("at least 0", 0, room.fit(0, 0));
        room.threshold(1);
        c.is("no candidate", Lostroom.NONE, room.candidate(0, 0));
        room.withdraw(0);
        c.is("fit of a CLOSED claim", 0, room.fit(0, 0));
        room.pass(90);
        c.is("fit of an ERASED claim", 15, room.fit(0, 0));
        room.destroy(0);
        c.is("fit of a DESTROYED find", 15, room.fit(0, 0));
    }

    private static void candidate() {
        c.promise("promise 25");
        Lostroom room = new Lostroom();
        int[] words = {0, 1, 3, 1, 0, 3, 7};
        for (int set : words) room.find(0, 0, 0, set, 0, 0, 0);
        room.find(1, 0, 0, 7, 0, 0, 0);
        room.claim(0, 0, 0, 0, 7);
        int[] order = {6, 2, 5, 1, 3, 0, 4};
        for (int place = 0; place < 7; place++) c.is("the place " + place, order[place], room.candidate(0, place));
        c.is("not so many", Lostroom.NONE, room.candidate(0, 7));
        c.is("far from so many", Lostroom.NONE, room.candidate(0, Integer.MAX_VALUE));
        room.threshold(room.fit(2, 0));
        c.is("at least the threshold", 5, room.candidate(0, 2));
        c.is("no others", Lostroom.NONE, room.candidate(0, 3));
        room.withdraw(0);
        c.is("none of a CLOSED claim", Lostroom.NONE, room.candidate(0, 0));
        c.bounds("claim -1", AskingTest::withBoth, r -> r.candidate(-1, 0));
        c.bounds("claim 1", AskingTest::withBoth, r -> r.candidate(1, 0));
        c.bounds("place -1", AskingTest::withBoth, r -> r.candidate(0, -1));
    }

    private static void candidatesThatAreHere() {
        Lostroom room = new Lostroom();
        for (int i = 0; i < 4; i++) room.find(0, 0, 0, i == 0 ? 1 : 0, 0, 0, 0);
        room.claim(0, 0, 0, 0, 1);
        room.claim(0, 0, 0, 0, 1);
        room.send(1, 1);
        room.send(2, 2);
        room.lose(2);
        room.release(0, 0);
        c.is("ON_THE_WAY is here", 1, room.candidate(1, 0));
        c.is("MISSING is here", 2, room.candidate(1, 1));
        c.is("KEPT is here", 3, room.candidate(1, 2));
        c.is("RELEASED is not", Lostroom.NONE, room.candidate(1, 3));
        room.hold(3, true);
        c.is("held is here", 3, room.candidate(1, 2));
    }

    private static void question() {
        c.promise("promise 26");
        Lostroom room = new Lostroom();
        int[] words = {1 | 4 | 32, 1 | 4 | 16, 1 | 4 | 16, 1 | 2};
        int[] secrets = {0, 8, 2, 16};
        for (int i = 0; i < 4; i++) room.find(0, 0, 0, words[i], secrets[i], 0, 0);
        c.is("a claim", 0, room.claim(0, 0, 0, 0, 0));
        c.is("had by two of four, hidden or not", 1, room.question(0));
        room.say(0, 2);
        c.is("then the lowest of those had by one or three", 2, room.question(0));
        room.say(0, 4);
        c.is("then the next one", 3, room.question(0));
        room.say(0, 8);
        c.is("then the next one, hidden in one of them", 4, room.question(0));
        room.say(0, 16);
        c.is("then the last one", 5, room.question(0));
        room.say(0, 32);
        c.is("then none", Lostroom.NONE, room.question(0));
        Lostroom one = withBoth();
        one.see(0, 7);
        c.is("each had by all or none", Lostroom.NONE, one.question(0));
        one.find(0, 0, 0, 1 << 23, 0, 0, 0);
        one.say(0, 7);
        c.is("the last word", 23, one.question(0));
        one.send(1, 1);
        c.is("what is here without being KEPT", 23, one.question(0));
        one.withdraw(0);
        c.is("none of a CLOSED claim", Lostroom.NONE, one.question(0));
        c.is("no candidates", Lostroom.NONE, withoutCandidates().question(0));
        c.bounds("claim -1", AskingTest::withBoth, r -> r.question(-1));
        c.bounds("claim 1", AskingTest::withBoth, r -> r.question(1));
        questionOfWhatIsHere();
    }

    private static Lostroom withoutCandidates() {
        Lostroom room = new Lostroom();
        room.find(0, 0, 0, 1, 0, 0, 0);
        room.find(0, 0, 0, 2, 0, 0, 0);
        room.claim(1, 0, 0, 0, 0);
        return room;
    }

    private static void questionOfWhatIsHere() {
        Lostroom room = new Lostroom();
        room.find(0, 0, 0, 1, 0, 0, 0);
        room.find(0, 0, 0, 2, 0, 0, 0);
        room.find(0, 0, 0, 2, 0, 0, 0);
        room.claim(0, 0, 0, 0, 0);
        room.claim(0, 0, 0, 0, 0);
        c.is("had by one of three", 0, room.question(1));
        room.release(0, 0);
        c.is("what was released counts no more", Lostroom.NONE, room.question(1));
    }

    private static void isProven() {
        c.promise("promise 27");
        Lostroom room = new Lostroom();
        room.find(0, 0, 0, 1, 2 | 4 | 8, 0, 0);
        int[] told = {0, 2, 6, 14, 6 | 1, 6 | 16, 6 | 1 | 16, 14 | 16, 14 | 48, 2 | 16};
        boolean[] proven = {false, false, true, true, true, true, false, true, false, false};
        for (int i = 0; i < told.length; i++) {
            room.claim(i % 2, 5, 0, 0, 0);
            room.tell(i, told[i]);
            c.is("told " + told[i], proven[i], room.isProven(0, i));
        }
        room.claim(0, 0, 0, 0, 6);
        c.is("words that are only said", false, room.isProven(0, 10));
        room.withdraw(2);
        c.is("of a CLOSED claim", true, room.isProven(0, 2));
        room.pass(90);
        c.is("of an ERASED claim", false, room.isProven(0, 2));
        c.bounds("find -1", AskingTest::withBoth, r -> r.isProven(-1, 0));
        c.bounds("find 1", AskingTest::withBoth, r -> r.isProven(1, 0));
        c.bounds("claim -1", AskingTest::withBoth, r -> r.isProven(0, -1));
        c.bounds("claim 1", AskingTest::withBoth, r -> r.isProven(0, 1));
    }

    private static void isDue() {
        c.promise("promise 28");
        Lostroom room = new Lostroom();
        room.rule(0, 5, 0);
        room.find(0, 0, 0, 0, 0, 0, 0);
        room.find(7, 0, 0, 0, 0, 0, 0);
        c.is("at first", false, room.isDue(0));
        room.pass(1);
        c.is("on the last day of one that perishes", false, room.isDue(1));
        room.pass(1);
        c.is("on the day after that", true, room.isDue(1));
        room.pass(3);
        c.is("on its last day", false, room.isDue(0));
        room.pass(1);
        c.is("on the day after that, too", true, room.isDue(0));
        room.claim(1, 0, 0, 0, 0);
        room.claim(0, 0, 0, 0, 0);
        c.is("a candidate of a later claim", false, room.isDue(0));
        c.is("another one is not", true, room.isDue(1));
        room.withdraw(1);
        c.is("of a CLOSED one", true, room.isDue(0));
        room.send(0, 1);
        c.is("ON_THE_WAY", false, room.isDue(0));
        room.lose(1);
        c.is("MISSING", false, room.isDue(0));
        room.turnUp(0, 1);
        c.is("KEPT again", true, room.isDue(0));
        room.sell(0, 1);
        c.is("SOLD", false, room.isDue(0));
        c.bounds("find -1", AskingTest::withBoth, r -> r.isDue(-1));
        c.bounds("find 1", AskingTest::withBoth, r -> r.isDue(1));
    }

    private static void ofFind() {
        c.promise("promise 29");
        Lostroom room = new Lostroom();
        room.find(0, 0, 0, 5, 2, 0, 3);
        int[] want = {Lostroom.KEPT, 3, 60, 5, 1};
        for (int what = 0; what < 5; what++) c.is("what " + what, want[what], room.ofFind(0, what));
        c.bounds("find -1", AskingTest::withBoth, r -> r.ofFind(-1, 0));
        c.bounds("find 1", AskingTest::withBoth, r -> r.ofFind(1, 5));
        c.bounds("find 30", AskingTest::withBoth, r -> r.ofFind(30, 0));
        c.argument("what -1", AskingTest::withBoth, r -> r.ofFind(0, -1));
        c.argument("what 5", AskingTest::withBoth, r -> r.ofFind(0, 5));
    }

    private static void hand() {
        c.promise("promise 30");
        Lostroom room = new Lostroom();
        room.pass(4);
        room.find(0, 0, 2, 0, 0, 0, 3);
        c.is("the room", 3, room.hand(0, 0, false));
        c.is("the day", 4, room.hand(0, 0, true));
        c.bounds("find -1", AskingTest::withBoth, r -> r.hand(-1, 0, true));
        c.bounds("find 1", AskingTest::withBoth, r -> r.hand(1, 0, true));
        c.bounds("place -1", AskingTest::withBoth, r -> r.hand(0, -1, false));
        c.bounds("place 1", AskingTest::withBoth, r -> r.hand(0, 1, true));
        c.bounds("place 12", AskingTest::withManyHands, r -> r.hand(0, 12, true));
        c.is("place 11", 7, withManyHands().hand(0, 11, true) - 8);
    }

    private static Lostroom withManyHands() {
        Lostroom room = new Lostroom();
        room.find(0, 0, 0, 0, 0, 0, 0);
        for (int i = 1; i <= 15; i++) {
            room.send(0, i % 2);
            room.pass(1);
        }
        return room;
    }

    private static void ofClaim() {
        c.promise("promise 31");
        Lostroom room = new Lostroom();
        room.find(0, 0, 0, 0, 0, 0, 0);
        room.find(0, 0, 0, 8, 0, 0, 0);
        room.claim(0, 0, 0, 0, 5);
        room.tell(0, 2);
        int[] want = {Lostroom.OPEN, 7, 2, Lostroom.NONE};
        for (int what = 0; what < 4; what++) c.is("what " + what, want[what], room.ofClaim(0, what));
        room.release(1, 0);
        c.is("the find", 1, room.ofClaim(0, 3));
        c.bounds("claim -1", AskingTest::withBoth, r -> r.ofClaim(-1, 0));
        c.bounds("claim 1", AskingTest::withBoth, r -> r.ofClaim(1, 4));
        c.bounds("claim 20", AskingTest::withBoth, r -> r.ofClaim(20, 0));
        c.argument("what -1", AskingTest::withBoth, r -> r.ofClaim(0, -1));
        c.argument("what 4", AskingTest::withBoth, r -> r.ofClaim(0, 4));
    }

    private static void money() {
        c.promise("promise 32");
        Lostroom room = new Lostroom();
        room.rule(0, 1, 50);
        room.find(0, 0, 0, 0, 0, 30, 0);
        room.find(0, 0, 0, 0, 0, 30, 0);
        room.find(0, 0, 0, 0, 0, 30, 0);
        room.claim(0, 0, 0, 0, 0);
        room.release(0, 0);
        room.pass(2);
        room.sell(1, 9);
        room.sell(2, 3);
        c.is("fees", 5, room.money(0));
        c.is("rewards", 15, room.money(1));
        c.is("proceeds", 12, room.money(2));
        room.claim(0, 0, 0, 0, 0);
        room.payOut(2, 1);
        c.is("all fees", 8, room.money(0));
        c.is("the same rewards", 15, room.money(1));
        c.is("proceeds that are kept", 9, room.money(2));
        c.argument("what -1", AskingTest::withBoth, r -> r.money(-1));
        c.argument("what 3", AskingTest::withBoth, r -> r.money(3));
    }

    private static void audit() {
        c.promise("promise 33");
        Lostroom room = new Lostroom();
        int[] rooms = {0, 5, 0, 5, 5};
        for (int number : rooms) room.find(0, 0, 0, 0, 0, 0, number);
        c.is("a room", 5, room.audit(0));
        c.is("another room", 26, room.audit(5));
        c.is("an empty room", 0, room.audit(3));
        room.send(3, 0);
        c.is("what is ON_THE_WAY is in none", 18, room.audit(5));
        c.is("nor there", 5, room.audit(0));
        room.pass(1);
        c.is("then it is there", 13, room.audit(0));
        c.bounds("room -1", AskingTest::withBoth, r -> r.audit(-1));
        c.bounds("room 6", AskingTest::withBoth, r -> r.audit(6));
    }
}
