/** The score of a find and a claim, sentence by sentence; the threshold; candidates; the question that tells most. */
public final class ScoresTest {
    private static final Checks c = new Checks();

    public static void main(String[] args) {
        kinds();
        samePlace();
        roomAndTrain();
        trainAndTrain();
        days();
        daysFarBehind();
        eachWord();
        allWords();
        hiddenWords();
        nearWords();
        nearHiddenWords();
        atLeastZero();
        threshold();
        thresholdAtItsEnds();
        thresholdOfTerms();
        candidatesInOrder();
        questionNearToHalf();
        questionOfWhatIsHad();
        questionOfWhatIsNoCandidate();
        rowsAreUsedAgain();
        c.end();
    }

    private static void kinds() {
        c.promise("40 for the same kind, 15 for kinds that are alike; for others it is NONE");
        for (int kind = 0; kind < 8; kind++) {
            for (int other = 0; other < 8; other++) {
                Lostroom room = new Lostroom();
                room.find(kind, 0, 0, 0, 0, 0, 0);
                room.claim(other, 0, 0, 0, 0);
                c.is("kinds " + kind + " and " + other, kind == other ? 80 : Lostroom.NONE, room.fit(0, 0));
                if (kind == other) continue;
                room.alike(kind, other);
                c.is("alike " + kind + " and " + other, 55, room.fit(0, 0));
                room.alike(kind, other);
                c.is("alike no more", Lostroom.NONE, room.fit(0, 0));
            }
        }
        Lostroom room = new Lostroom();
        room.alike(0, 1);
        room.alike(1, 2);
        room.find(0, 0, 0, 0xFFFFFF, 0, 0, 0);
        room.claim(2, 0, 0, 0, 0xFFFFFF);
        c.is("what is alike to an alike one is another kind, whatever else fits", Lostroom.NONE, room.fit(0, 0));
    }

    private static int fitOfPlaces(Lostroom room, int place, int other) {
        int find = room.find(0, place, 0, 0, 0, 0, 0);
        int claim = room.claim(0, other, 0, 0, 0);
        return room.fit(find, claim) - 60;
    }

    private static void samePlace() {
        c.promise("20 for the same place");
        for (int place = 0; place < 10; place++) {
            for (int other = 0; other < 10; other++) {
                int want = place == other ? 20 : 0;
                c.is("places " + place + " and " + other, want, fitOfPlaces(new Lostroom(), place, other));
            }
        }
        Lostroom room = new Lostroom();
        for (int i = 0; i < 6; i++) room.stop(2, i);
        c.is("the same train, that stops", 20, fitOfPlaces(room, 8, 8));
        for (int i = 0; i < 5; i++) c.is("two rooms of one train", 0, fitOfPlaces(room, i, i + 1));
    }

    private static void roomAndTrain() {
        c.promise("otherwise 10, if there is a room that is of both: a room is of the trains that stop there");
        for (int train = 0; train < 4; train++) {
            for (int stop = 0; stop < 6; stop++) {
                Lostroom room = new Lostroom();
                room.stop(train, stop);
                for (int i = 0; i < 6; i++) {
                    int want = i == stop ? 10 : 0;
                    c.is("room " + i + ", train " + train + " at " + stop, want, fitOfPlaces(room, i, 6 + train));
                    c.is("train " + train + " at " + stop + ", room " + i, want, fitOfPlaces(room, 6 + train, i));
                }
                for (int i = 0; i < 4; i++) {
                    if (i != train) c.is("a train without stops", 0, fitOfPlaces(room, 6 + i, 6 + train));
                }
                c.is("a room and a train without stops", 0, fitOfPlaces(room, stop, 6 + (train + 1) % 4));
            }
        }
    }

    private static void trainAndTrain() {
        c.promise("so two trains with a stop in common have 10");
        for (int train = 0; train < 4; train++) {
            for (int other = 0; other < 4; other++) {
                if (train == other) continue;
                Lostroom room = new Lostroom();
                room.stop(train, 0);
                room.stop(other, 5);
                c.is("no stop in common", 0, fitOfPlaces(room, 6 + train, 6 + other));
                room.stop(train, 5);
                c.is("the last stop in common", 10, fitOfPlaces(room, 6 + train, 6 + other));
                room.stop(other, 0);
                c.is("two stops in common", 10, fitOfPlaces(room, 6 + train, 6 + other));
            }
        }
    }

    private static int fitOfDays(int foundOn, int from, int to) {
        Lostroom room = Rooms.onDay(100);
        room.find(0, 0, 100 - foundOn, 0, 0, 0, 0);
        room.claim(0, 0, from, to, 0);
        return room.fit(0, 0) - 60;
    }

    private static void days() {
        c.promise("20, less 2 for each day that the find's day is behind the last one, at least 0");
        for (int from : new int[] {40, 49, 50}) {
            for (int behind = 0; behind <= 50; behind++) {
                int want = behind >= 10 ? 0 : 20 - 2 * behind;
                c.is(behind + " days behind 50, from " + from, want, fitOfDays(50 + behind, from, 50));
            }
            for (int day = from; day <= 50; day++) c.is("on the day " + day, 20, fitOfDays(day, from, 50));
            c.promise("but 0 if it is ahead of the first one");
            for (int ahead = 1; ahead <= from; ahead++) {
                c.is(ahead + " days ahead of " + from, 0, fitOfDays(from - ahead, from, 50));
            }
        }
    }

    private static void daysFarBehind() {
        c.promise("at the ends of all days");
        c.is("the day 0 of the day 0", 20, fitOfDays(0, 0, 0));
        c.is("the day 0 of all days", 20, fitOfDays(0, 0, 100));
        c.is("today of all days", 20, fitOfDays(100, 0, 100));
        c.is("today of the day 0", 0, fitOfDays(100, 0, 0));
        c.is("today of today", 20, fitOfDays(100, 100, 100));
        c.is("yesterday of today", 0, fitOfDays(99, 100, 100));
        c.is("today of yesterday", 18, fitOfDays(100, 99, 99));
        Lostroom room = Rooms.onDay(9999);
        room.find(0, 0, 0, 0, 0, 0, 0);
        room.find(0, 0, 9999, 0, 0, 0, 0);
        room.claim(0, 0, 0, 0, 0);
        room.claim(0, 0, 9999, 9999, 0);
        c.is("the last day of the first", 60, room.fit(0, 0));
        c.is("the first day of the last", 60, room.fit(1, 1));
        c.is("the last day of the last", 80, room.fit(0, 1));
    }

    private static int fitOfWords(int words, int secret, int said, int told) {
        Lostroom room = new Lostroom();
        room.find(0, 0, 0, words, secret, 0, 0);
        room.claim(0, 0, 0, 0, said);
        room.tell(0, told);
        return room.fit(0, 0) - 80;
    }

    private static void eachWord() {
        c.promise("for each word of the claim 6, if it is a word of the find; otherwise 1 less");
        for (int word = 0; word < 24; word++) {
            c.is("the word " + word, 6, fitOfWords(1 << word, 0, 1 << word, 0));
            c.is("the word " + word + ", told", 6, fitOfWords(1 << word, 0, 0, 1 << word));
            c.is("the word " + word + ", said and told", 6, fitOfWords(1 << word, 0, 1 << word, 1 << word));
            c.is("another word than " + word, -1, fitOfWords(0xFFFFFF & ~(1 << word), 0, 1 << word, 0));
            c.is("all but the word " + word, 23 * 6 - 1, fitOfWords(0xFFFFFF & ~(1 << word), 0, 0xFFFFFF, 0));
            c.is("only the word " + word, 6 - 23, fitOfWords(1 << word, 0, 0xFFFFFF, 0));
        }
    }

    private static void allWords() {
        c.is("no words of both", 0, fitOfWords(0, 0, 0, 0));
        c.is("no words of the claim", 0, fitOfWords(0xFFFFFF, 0, 0, 0));
        c.is("no words of the find", -24, fitOfWords(0, 0, 0xFFFFFF, 0));
        c.is("all words of both", 144, fitOfWords(0xFFFFFF, 0, 0xFFFFFF, 0));
        c.is("all words, told", 144, fitOfWords(0xFFFFFF, 0, 0, 0xFFFFFF));
        c.is("half of the words", 12 * 6 - 12, fitOfWords(0x555555, 0, 0xFFFFFF, 0));
    }

    private static void hiddenWords() {
        c.promise("or a hidden one of it that the claim tells as a proof");
        for (int word = 0; word < 24; word++) {
            c.is("the hidden word " + word + ", said", -1, fitOfWords(0, 1 << word, 1 << word, 0));
            c.is("the hidden word " + word + ", told", 6, fitOfWords(0, 1 << word, 0, 1 << word));
        }
        c.is("all hidden, all said", -24, fitOfWords(0, 0xFFFFFF, 0xFFFFFF, 0));
        c.is("all hidden, all told", 144, fitOfWords(0, 0xFFFFFF, 0, 0xFFFFFF));
        c.is("one told, one said, both hidden", 5, fitOfWords(0, 3, 2, 1));
        c.is("an open word and a hidden one, told", 12, fitOfWords(1, 2, 0, 3));
        c.is("an open word said, a hidden one said", 5, fitOfWords(1, 2, 3, 0));
        c.is("what the claim does not have counts nothing", 6, fitOfWords(1, 2, 0, 2));
    }

    /** The words 0 and 1 are near one another, and 22 and 23, and 5 and 6, and 5 and 7. */
    private static int fitOfNearWords(int words, int secret, int said, int told) {
        Lostroom room = new Lostroom();
        room.near(0, 1);
        room.near(23, 22);
        room.near(5, 6);
        room.near(7, 5);
        room.find(0, 0, 0, words, secret, 0, 0);
        room.claim(0, 0, 0, 0, said);
        room.tell(0, told);
        return room.fit(0, 0) - 80;
    }

    private static void nearWords() {
        c.promise("otherwise 3, if it is near one of the find's words");
        c.is("0 to 1", 3, fitOfNearWords(2, 0, 1, 0));
        c.is("1 to 0", 3, fitOfNearWords(1, 0, 2, 0));
        c.is("22 to 23", 3, fitOfNearWords(1 << 23, 0, 1 << 22, 0));
        c.is("23 to 22", 3, fitOfNearWords(1 << 22, 0, 1 << 23, 0));
        c.is("told, and near", 3, fitOfNearWords(2, 0, 0, 1));
        c.is("near to two of them counts once", 3, fitOfNearWords(1 << 6 | 1 << 7, 0, 1 << 5, 0));
        c.is("two that are near to one", 6, fitOfNearWords(1 << 5, 0, 1 << 6 | 1 << 7, 0));
        c.is("near to the first of three", 3, fitOfNearWords(2 | 1 << 9 | 1 << 23, 0, 1, 0));
        c.is("near to the last of three", 3, fitOfNearWords(2 | 1 << 9 | 1 << 23, 0, 1 << 22, 0));
        c.is("each near to another one", 6, fitOfNearWords(2 | 1 << 9 | 1 << 23, 0, 1 | 1 << 22, 0));
        c.is("near to what is near", -1, fitOfNearWords(1 << 6, 0, 1 << 7, 0));
        c.is("a word of it, and near to another one of it", 6, fitOfNearWords(3, 0, 1, 0));
        c.is("both of them", 12, fitOfNearWords(3, 0, 3, 0));
        c.is("one that fits, one near to it, one that fails", 8, fitOfNearWords(1, 0, 7, 0));
        c.is("near to a word of the claim only", -2, fitOfNearWords(0, 0, 3, 0));
    }

    private static void nearHiddenWords() {
        c.promise("or of its hidden ones that the claim tells as a proof");
        c.is("near to a hidden one that is not told", -1, fitOfNearWords(0, 1, 2, 0));
        c.is("near to a hidden one that is only said", -2, fitOfNearWords(0, 1, 3, 0));
        c.is("near to a hidden one that is told", 9, fitOfNearWords(0, 1, 2, 1));
        c.is("told, and near to a hidden one that is told", 9, fitOfNearWords(0, 1, 0, 3));
        c.is("told, and near to a hidden one that is not", -1, fitOfNearWords(0, 1, 0, 2));
        c.is("hidden and only said, but near to an open one", 3, fitOfNearWords(2, 1, 1, 0));
        c.is("hidden and only said, but near to a hidden one that is told", 9, fitOfNearWords(0, 3, 1, 2));
        c.is("hidden and told, and near to an open one", 6, fitOfNearWords(2, 1, 0, 1));
    }

    /** Alike kinds, other places, a day ahead: 15 for the kinds alone, and so many words that fail. */
    private static Lostroom withLowScore(int words) {
        Lostroom room = Rooms.onDay(1);
        room.alike(0, 1);
        room.threshold(1);
        room.find(0, 0, 1, 0, 0, 0, 0);
        room.claim(1, 1, 1, 1, (1 << words) - 1);
        return room;
    }

    private static void atLeastZero() {
        c.promise("together, but at least 0");
        for (int words = 0; words <= 24; words++) {
            Lostroom room = withLowScore(words);
            c.is(words + " words that fail", words > 15 ? 0 : 15 - words, room.fit(0, 0));
            c.is("a candidate, if at least 1: " + words, words < 15 ? 0 : Lostroom.NONE, room.candidate(0, 0));
        }
        Lostroom room = withLowScore(16);
        room.alike(0, 1);
        c.is("NONE, not 0, for others", Lostroom.NONE, room.fit(0, 0));
        c.is("no candidate", Lostroom.NONE, room.candidate(0, 0));
        c.is("nothing is below 0 together, not each by itself", 3, withLowScoreAndFit());
    }

    /** 15 for the kinds, 6 for one word, 18 less. */
    private static int withLowScoreAndFit() {
        Lostroom room = withLowScore(19);
        room.see(0, 1);
        return room.fit(0, 0);
    }

    private static void threshold() {
        c.promise("candidates are the finds that have at least the threshold with it, 50 at first");
        int[] wrongWords = {0, 9, 10, 11, 24};
        for (int wrong : wrongWords) {
            Lostroom room = new Lostroom();
            room.find(0, 0, 0, 0, 0, 0, 0);
            room.claim(0, 1, 0, 0, (1 << wrong) - 1);
            c.is("a score of " + (60 - wrong), 60 - wrong, room.fit(0, 0));
            c.is("a candidate of " + (60 - wrong), wrong <= 10 ? 0 : Lostroom.NONE, room.candidate(0, 0));
            c.is("the one before", 50, room.threshold(60 - wrong));
            c.is("just the threshold", 0, room.candidate(0, 0));
            room.threshold(61 - wrong);
            c.is("one below the threshold", Lostroom.NONE, room.candidate(0, 0));
        }
    }

    /** 80 for kinds, places and days, and 120 for 20 words; more for others. */
    private static Lostroom withScoreOfTwoHundred(int others) {
        Lostroom room = new Lostroom();
        room.find(0, 0, 0, 0xFFFFF, 0, 0, 0);
        room.claim(0, 0, 0, 0, 0xFFFFF | others);
        room.threshold(200);
        return room;
    }

    private static void thresholdAtItsEnds() {
        c.promise("promise 6: score 1 to 200");
        c.is("a score of 200", 200, withScoreOfTwoHundred(0).fit(0, 0));
        c.is("a candidate of 200", 0, withScoreOfTwoHundred(0).candidate(0, 0));
        c.is("a score of 199", 199, withScoreOfTwoHundred(1 << 20).fit(0, 0));
        c.is("no candidate of 199", Lostroom.NONE, withScoreOfTwoHundred(1 << 20).candidate(0, 0));
        Lostroom room = withScoreOfTwoHundred(0xF00000);
        room.see(0, 0xF00000);
        c.is("the greatest score", 224, room.fit(0, 0));
        c.is("a candidate of 224", 0, room.candidate(0, 0));
        c.is("the one before", 200, room.threshold(1));
        c.is("the lowest before", 1, room.threshold(1));
        c.is("the same before", 1, room.threshold(200));
    }

    /** The find 0 is wanted by a claim with a score of 80, and not held, on the day after its last day. */
    private static Lostroom wanted(int threshold) {
        Lostroom room = Rooms.withFinds(1);
        room.pass(61);
        room.claim(0, 0, 0, 0, 0);
        room.threshold(threshold);
        return room;
    }

    private static void thresholdOfTerms() {
        c.promise("a find's term is over, if it is no candidate of any claim");
        c.is("just the threshold", false, wanted(80).isDue(0));
        c.is("one below the threshold", true, wanted(81).isDue(0));
        c.state("sell at the threshold", () -> wanted(80), r -> r.sell(0, 1));
        c.state("destroy at the threshold", () -> wanted(80), r -> r.destroy(0));
        c.is("sell below the threshold", 1, wanted(81).sell(0, 1));
        c.is("destroy below the threshold", 0, wanted(81).destroy(0));
        Lostroom room = wanted(81);
        for (int i = 1; i < 20; i++) room.claim(0, 0, 0, 0, 0);
        c.is("wanted by none of 20 claims", true, room.isDue(0));
        room.see(0, 1);
        c.is("not by what no claim says", true, room.isDue(0));
        room.say(19, 1);
        c.is("wanted by the last one of 20", false, room.isDue(0));
        room.withdraw(19);
        c.is("wanted by none any more", true, room.isDue(0));
    }

    private static void candidatesInOrder() {
        c.promise("promise 25: by falling scores, of alike ones by rising numbers");
        Lostroom room = new Lostroom();
        int[] words = {1, 3, 0, 1, 7, 3, 1};
        int[] order = {4, 1, 5, 0, 3, 6, 2};
        for (int set : words) room.find(0, 0, 0, set, 0, 0, 0);
        room.find(1, 0, 0, 7, 0, 0, 0);
        room.claim(0, 0, 0, 0, 7);
        for (int place = 0; place < 7; place++) c.is("place " + place, order[place], room.candidate(0, place));
        c.is("another kind is none", Lostroom.NONE, room.candidate(0, 7));
        c.is("a place far away", Lostroom.NONE, room.candidate(0, Integer.MAX_VALUE));
        room.threshold(86);
        c.is("the last one of at least 84 points", 1, room.candidate(0, 1));
        room.threshold(room.fit(5, 0) + 1);
        c.is("only the best one", 4, room.candidate(0, 0));
        c.is("the second one is below", Lostroom.NONE, room.candidate(0, 1));
        room.threshold(200);
        c.is("none at all", Lostroom.NONE, room.candidate(0, 0));
    }

    /** So many finds, of which the first ones have each of the words: counts[i] of them the word i. */
    private static Lostroom withCounts(int finds, int... counts) {
        Lostroom room = Rooms.withFinds(finds);
        for (int word = 0; word < counts.length; word++) {
            for (int find = 0; find < counts[word]; find++) room.see(find, 1 << word);
        }
        room.claim(0, 0, 0, 0, 0);
        return room;
    }

    private static void questionNearToHalf() {
        c.promise("promise 26: as near to half as can be, of several the lowest");
        c.is("no candidate", Lostroom.NONE, withCounts(0).question(0));
        c.is("one candidate, with words", Lostroom.NONE, withCounts(1, 1, 0, 1).question(0));
        c.is("two, had by one", 1, withCounts(2, 2, 1, 1).question(0));
        c.is("two, had by all or none", Lostroom.NONE, withCounts(2, 2, 0, 2).question(0));
        c.is("three, had by one or two", 1, withCounts(3, 3, 1, 2).question(0));
        c.is("three, had by two or one", 1, withCounts(3, 0, 2, 1).question(0));
        c.is("four, had by two before one and three", 2, withCounts(4, 1, 3, 2, 2).question(0));
        c.is("four, had by three or one", 1, withCounts(4, 4, 3, 1).question(0));
        c.is("five, had by two or three", 1, withCounts(5, 1, 2, 3).question(0));
        c.is("five, had by three or two", 1, withCounts(5, 4, 3, 2).question(0));
        c.is("five, had by four or one", 0, withCounts(5, 4, 1).question(0));
        c.is("seven, had by three before five", 2, withCounts(7, 5, 2, 3, 4).question(0));
        c.is("thirty, had by 15", 3, withCounts(30, 14, 16, 1, 15, 15).question(0));
        c.is("thirty, had by 29", 0, withCounts(30, 29, 30).question(0));
        for (int word = 0; word < 24; word++) {
            Lostroom room = Rooms.withFinds(2);
            room.see(1, 1 << word);
            room.claim(0, 0, 0, 0, 0);
            c.is("the word " + word, word, room.question(0));
        }
    }

    private static void questionOfWhatIsHad() {
        c.promise("promise 26: of those that the claim does not have; hidden or not");
        for (int word = 0; word < 24; word++) {
            Lostroom room = new Lostroom();
            room.find(0, 0, 0, 0, 0xFFFFFF, 0, 0);
            room.find(0, 0, 0, 0, 0, 0, 0);
            int had = (1 << word) - 1;
            room.claim(0, 0, 0, 0, 0);
            if (word % 2 == 0) room.say(0, had); else room.tell(0, had);
            room.threshold(1);
            c.is("hidden, the claim has those below " + word, word, room.question(0));
            room.say(0, 0xFFFFFF);
            c.is("the claim has all", Lostroom.NONE, room.question(0));
        }
        Lostroom room = new Lostroom();
        room.find(0, 0, 0, 1, 2, 0, 0);
        room.find(0, 0, 0, 2, 1, 0, 0);
        room.find(0, 0, 0, 0, 4, 0, 0);
        room.find(0, 0, 0, 4, 0, 0, 0);
        room.find(0, 0, 0, 3, 8, 0, 0);
        room.claim(0, 0, 0, 0, 0);
        c.is("had by three, hidden or not", 0, room.question(0));
        room.say(0, 1);
        c.is("then the next one", 1, room.question(0));
        room.say(0, 2);
        c.is("had by two", 2, room.question(0));
        room.say(0, 4);
        c.is("had by one, hidden", 3, room.question(0));
    }

    private static void questionOfWhatIsNoCandidate() {
        c.promise("promise 26: of its candidates that are here");
        Lostroom room = Rooms.withFinds(3);
        room.see(2, 1 << 4);
        room.find(1, 0, 0, 1, 0, 0, 0);
        room.claim(0, 0, 0, 0, 0);
        c.is("another kind counts not", 4, room.question(0));
        room.alike(0, 1);
        c.is("an alike one does", 0, room.question(0));
        room.threshold(56);
        c.is("but not below the threshold", 4, room.question(0));
        room.send(2, 1);
        c.is("one on the way counts", 4, room.question(0));
        room.lose(1);
        c.is("and one that is missing", 4, room.question(0));
        room.turnUp(2, 0);
        room.claim(0, 0, 0, 0, 1 << 4);
        c.is("released to another one", 5, room.release(2, 1));
        c.is("it counts no more", Lostroom.NONE, room.question(0));
    }

    private static void rowsAreUsedAgain() {
        c.promise("asking changes nothing");
        Lostroom room = new Lostroom();
        room.find(0, 0, 0, 1, 0, 0, 0);
        room.find(1, 0, 0, 2, 0, 0, 0);
        room.find(1, 0, 0, 4, 0, 0, 0);
        room.claim(0, 0, 0, 0, 0);
        room.claim(1, 0, 0, 0, 0);
        for (int i = 0; i < 3; i++) {
            c.is("the first claim", 0, room.candidate(0, 0));
            c.is("has one", Lostroom.NONE, room.candidate(0, 1));
            c.is("the second one has two", 2, room.candidate(1, 1));
            c.is("no question", Lostroom.NONE, room.question(0));
            c.is("the best of the second", 1, room.candidate(1, 0));
            c.is("a question", 1, room.question(1));
        }
    }
}
