/** Promises 2 to 6. */
public final class WordsKindsPlacesTest {
    private static final Checks c = new Checks();

    public static void main(String[] args) {
        near();
        alike();
        rule();
        ruleIsForFindsAndReleasesFromNowOn();
        stop();
        threshold();
        c.end();
    }

    /** A find with the word 0 and a claim with the word 5, so that 79 and 83 tell whether these are near one another. */
    private static Lostroom withTwoWords() {
        Lostroom room = new Lostroom();
        room.find(0, 0, 0, 1, 0, 0, 0);
        room.claim(0, 0, 0, 0, 1 << 5);
        return room;
    }

    private static void near() {
        c.promise("promise 2");
        Lostroom room = withTwoWords();
        c.is("fit while not near", 79, room.fit(0, 0));
        c.is("near", true, room.near(0, 5));
        c.is("fit while near", 83, room.fit(0, 0));
        c.is("near again, the other way round", false, room.near(5, 0));
        c.is("fit while no more near", 79, room.fit(0, 0));
        c.is("near a third time", true, room.near(5, 0));
        c.is("fit while near the other way round", 83, room.fit(0, 0));
        c.is("the last words", true, room.near(23, 22));
        c.is("another pair with a word of both", true, room.near(0, 23));
        c.is("the first pair is as it was", 83, room.fit(0, 0));
        c.bounds("word -1", WordsKindsPlacesTest::withTwoWords, r -> r.near(-1, 0));
        c.bounds("word 24", WordsKindsPlacesTest::withTwoWords, r -> r.near(24, 0));
        c.bounds("other -1", WordsKindsPlacesTest::withTwoWords, r -> r.near(0, -1));
        c.bounds("other 24", WordsKindsPlacesTest::withTwoWords, r -> r.near(0, 24));
        c.bounds("no such word comes before the same one", WordsKindsPlacesTest::withTwoWords, r -> r.near(24, 24));
        c.bounds("far below", WordsKindsPlacesTest::withTwoWords, r -> r.near(Integer.MIN_VALUE, Integer.MAX_VALUE));
        c.argument("the same word", WordsKindsPlacesTest::withTwoWords, r -> r.near(5, 5));
    }

    private static Lostroom withTwoKinds() {
        Lostroom room = new Lostroom();
        room.find(2, 0, 0, 0, 0, 0, 0);
        room.claim(7, 0, 0, 0, 0);
        return room;
    }

    private static void alike() {
        c.promise("promise 3");
        Lostroom room = withTwoKinds();
        c.is("fit while not alike", Lostroom.NONE, room.fit(0, 0));
        c.is("alike", true, room.alike(2, 7));
        c.is("fit while alike", 55, room.fit(0, 0));
        c.is("alike again, the other way round", false, room.alike(7, 2));
        c.is("fit while no more alike", Lostroom.NONE, room.fit(0, 0));
        c.is("alike a third time", true, room.alike(7, 2));
        c.is("fit while alike the other way round", 55, room.fit(0, 0));
        c.is("another pair", true, room.alike(2, 0));
        c.is("the first pair is as it was", 55, room.fit(0, 0));
        c.bounds("kind -1", WordsKindsPlacesTest::withTwoKinds, r -> r.alike(-1, 0));
        c.bounds("kind 8", WordsKindsPlacesTest::withTwoKinds, r -> r.alike(8, 0));
        c.bounds("other -1", WordsKindsPlacesTest::withTwoKinds, r -> r.alike(0, -1));
        c.bounds("other 8", WordsKindsPlacesTest::withTwoKinds, r -> r.alike(0, 8));
        c.bounds("no such kind comes before the same one", WordsKindsPlacesTest::withTwoKinds, r -> r.alike(-1, -1));
        c.argument("the same kind", WordsKindsPlacesTest::withTwoKinds, r -> r.alike(2, 2));
    }

    private static void rule() {
        c.promise("promise 4");
        Lostroom room = new Lostroom();
        c.is("the term at first", 60, room.rule(0, 1, 0));
        c.is("the shortest term", 1, room.rule(0, 400, 50));
        c.is("the longest term", 400, room.rule(0, 30, 10));
        c.is("another kind", 60, room.rule(7, 2, 50));
        c.is("a kind that perishes has a term told", 2, room.rule(7, 3, 50));
        c.bounds("kind -1", Lostroom::new, r -> r.rule(-1, 1, 0));
        c.bounds("kind 8", Lostroom::new, r -> r.rule(8, 1, 0));
        c.bounds("no such kind comes before a wrong term", Lostroom::new, r -> r.rule(8, 0, 51));
        c.argument("term 0", Lostroom::new, r -> r.rule(0, 0, 0));
        c.argument("term 401", Lostroom::new, r -> r.rule(0, 401, 0));
        c.argument("rate -1", Lostroom::new, r -> r.rule(0, 1, -1));
        c.argument("rate 51", Lostroom::new, r -> r.rule(0, 1, 51));
        c.is("a wrong rate leaves the term", 60, afterWrongRule().rule(0, 2, 0));
    }

    private static Lostroom afterWrongRule() {
        Lostroom room = new Lostroom();
        try {
            room.rule(0, 5, 51);
        } catch (IllegalArgumentException e) {
            return room;
        }
        return room;
    }

    private static void ruleIsForFindsAndReleasesFromNowOn() {
        Lostroom room = new Lostroom();
        room.find(0, 0, 0, 0, 0, 150, 0);
        room.rule(0, 10, 33);
        room.find(0, 0, 0, 0, 0, 150, 0);
        c.is("the term as it was then", 60, room.ofFind(0, 2));
        c.is("the term from now on", 10, room.ofFind(1, 2));
        room.claim(0, 0, 0, 0, 0);
        room.claim(0, 0, 0, 0, 0);
        c.is("the reward as it is now, even for a find from before, rounded down", 5 + 49, room.release(0, 0));
        room.rule(0, 10, 0);
        c.is("no reward from now on", 5, room.release(1, 1));
    }

    private static Lostroom withOneStop() {
        Lostroom room = new Lostroom();
        room.stop(3, 5);
        return room;
    }

    private static void stop() {
        c.promise("promise 5");
        Lostroom room = new Lostroom();
        c.is("the first stop", 1, room.stop(0, 3));
        c.is("the second stop, of a lower number", 2, room.stop(0, 0));
        c.is("the first stop of another train", 1, room.stop(3, 3));
        for (int i = 0; i < 6; i++) c.is("all stops", i + 1, room.stop(2, i));
        c.bounds("train -1", WordsKindsPlacesTest::withOneStop, r -> r.stop(-1, 0));
        c.bounds("train 4", WordsKindsPlacesTest::withOneStop, r -> r.stop(4, 0));
        c.bounds("room -1", WordsKindsPlacesTest::withOneStop, r -> r.stop(0, -1));
        c.bounds("room 6", WordsKindsPlacesTest::withOneStop, r -> r.stop(0, 6));
        c.state("it stops there already", WordsKindsPlacesTest::withOneStop, r -> r.stop(3, 5));
    }

    private static void threshold() {
        c.promise("promise 6");
        Lostroom room = new Lostroom();
        room.find(0, 0, 0, 0, 0, 0, 0);
        room.claim(0, 0, 0, 0, 0);
        c.is("the threshold at first", 50, room.threshold(80));
        c.is("a score of just the threshold", 0, room.candidate(0, 0));
        c.is("the threshold before", 80, room.threshold(81));
        c.is("a score below the threshold", Lostroom.NONE, room.candidate(0, 0));
        c.is("the lowest", 81, room.threshold(1));
        c.is("the highest", 1, room.threshold(200));
        c.is("the highest before", 200, room.threshold(50));
        c.argument("score 0", Lostroom::new, r -> r.threshold(0));
        c.argument("score -1", Lostroom::new, r -> r.threshold(-1));
        c.argument("score 201", Lostroom::new, r -> r.threshold(201));
    }
}
