/** What proves a find, and which claim is beaten for it, at release() and at payOut(). */
public final class ProofsTest {
    private static final Checks c = new Checks();

    public static void main(String[] args) {
        eachNumberOfWords();
        endsOfSets();
        onlyWhatIsTold();
        releaseWantsAProof();
        beatenByScore();
        beatenByNumber();
        notBeatenByWhatIsNotOpen();
        notBeatenWithoutProof();
        beatenByOneOfTwenty();
        beatenWithoutThreshold();
        eachForItself();
        c.end();
    }

    private static boolean isProof(int words, int secret, int told) {
        Lostroom room = new Lostroom();
        room.find(0, 0, 0, words, secret, 0, 0);
        room.claim(1, 1, 0, 0, 0);
        room.tell(0, told);
        return room.isProven(0, 0);
    }

    private static void eachNumberOfWords() {
        c.promise("it tells two of its hidden words, or all if there are fewer, and not more than one other word");
        for (int hidden = 0; hidden <= 4; hidden++) {
            for (int right = 0; right <= hidden; right++) {
                for (int open = 0; open <= 3; open++) {
                    for (int strange = 0; strange <= 3; strange++) {
                        int secret = (1 << hidden) - 1;
                        int told = (1 << right) - 1 | ((1 << open) - 1) << 8 | ((1 << strange) - 1) << 16;
                        boolean isEnough = hidden == 0 || hidden == 1 && right == 1 || right >= 2;
                        String what = right + " of " + hidden + " hidden ones, " + open + " open ones, " + strange;
                        c.is(what, isEnough && open + strange <= 1, isProof(0xFF00, secret, told));
                    }
                }
            }
        }
    }

    private static void endsOfSets() {
        c.is("all are hidden and told", true, isProof(0, 0xFFFFFF, 0xFFFFFF));
        c.is("all are hidden, none told", false, isProof(0, 0xFFFFFF, 0));
        c.is("the first and the last one", true, isProof(0, 0xFFFFFF, 1 << 23 | 1));
        c.is("only the last one of two", false, isProof(0, 1 << 23 | 1, 1 << 23));
        c.is("all but one are hidden, all told", true, isProof(1, 0xFFFFFE, 0xFFFFFF));
        c.is("all but two are hidden, all told", false, isProof(1, 0xFFFFFC, 0xFFFFFF));
        c.is("the last one is the only one", true, isProof(0, 1 << 23, 1 << 23));
        c.is("the last one is another one", true, isProof(0, 0, 1 << 23));
        c.is("the last two are others", false, isProof(0, 0, 3 << 22));
        c.is("no words at all", true, isProof(0, 0, 0));
    }

    private static void onlyWhatIsTold() {
        c.promise("it tells");
        Lostroom room = new Lostroom();
        room.find(0, 0, 0, 0, 7, 0, 0);
        room.claim(0, 0, 0, 0, 7);
        c.is("words from the first are not told", false, room.isProven(0, 0));
        room.say(0, 7);
        c.is("nor those that are said", false, room.isProven(0, 0));
        room.tell(0, 1);
        c.is("one", false, room.isProven(0, 0));
        room.tell(0, 2);
        c.is("two, one after the other", true, room.isProven(0, 0));
        room.say(0, 0xFFFFFF);
        c.is("others that are said do not count", true, room.isProven(0, 0));
        room.tell(0, 8);
        c.is("one other", true, room.isProven(0, 0));
        room.tell(0, 8);
        c.is("the same other again", true, room.isProven(0, 0));
        room.tell(0, 16);
        c.is("two others", false, room.isProven(0, 0));
        room.tell(0, 4);
        c.is("they stay told", false, room.isProven(0, 0));
        room.see(0, 24);
        c.is("and are others when they are seen", false, room.isProven(0, 0));
    }

    private static Lostroom withProof(int secret, int told, boolean isSold) {
        Lostroom room = new Lostroom();
        room.rule(0, 1, 0);
        room.find(0, 0, 0, 0, secret, 0, 0);
        room.pass(2);
        if (isSold) room.sell(0, 40);
        room.claim(0, 0, 0, 0, 0);
        room.tell(0, told);
        return room;
    }

    private static void releaseWantsAProof() {
        c.promise("promises 17 and 21: refused if that does not prove it");
        int[][] proofs = {{0, 0}, {0, 8}, {1, 1}, {1, 9}, {3, 3}, {7, 5}, {7, 13}};
        for (int[] p : proofs) {
            c.is("release of " + p[0] + " told " + p[1], 5, withProof(p[0], p[1], false).release(0, 0));
            c.is("payOut of " + p[0] + " told " + p[1], 35, withProof(p[0], p[1], true).payOut(0, 0));
        }
        int[][] none = {{0, 24}, {1, 0}, {1, 8}, {1, 25}, {3, 1}, {3, 9}, {3, 27}, {7, 4}, {7, 31}};
        for (int[] p : none) {
            c.state("release of " + p[0] + " told " + p[1], () -> withProof(p[0], p[1], false), r -> r.release(0, 0));
            c.state("payOut of " + p[0] + " told " + p[1], () -> withProof(p[0], p[1], true), r -> r.payOut(0, 0));
        }
    }

    /** Each claim says its words and proves the find 0, which has the words 0 to 7 and hides 8, 9 and 10. */
    private static Lostroom withClaims(boolean isSold, int... words) {
        Lostroom room = new Lostroom();
        room.rule(0, 1, 0);
        room.find(0, 0, 0, 0xFF, 0x700, 0, 0);
        room.pass(2);
        if (isSold) room.sell(0, 40);
        for (int i = 0; i < words.length; i++) {
            room.claim(0, 0, 0, 0, words[i]);
            room.tell(i, 0x300);
        }
        return room;
    }

    private static Lostroom kept(int... words) {
        return withClaims(false, words);
    }

    private static Lostroom sold(int... words) {
        return withClaims(true, words);
    }

    private static void beaten(String what, int claim, int... words) {
        c.state("release, " + what, () -> kept(words), r -> r.release(0, claim));
        c.state("payOut, " + what, () -> sold(words), r -> r.payOut(0, claim));
    }

    private static void best(String what, int claim, int... words) {
        c.is("release, " + what, 5, kept(words).release(0, claim));
        c.is("payOut, " + what, 35, sold(words).payOut(0, claim));
    }

    private static void beatenByScore() {
        c.promise("a claim is beaten, if another OPEN claim proves it, and has a greater score");
        int oneLess = 1 << 20;
        beaten("a greater score by one, higher number", 0, oneLess, 0);
        best("a greater score by one, higher number", 1, oneLess, 0);
        beaten("a greater score by one, lower number", 1, 0, oneLess);
        best("a greater score by one, lower number", 0, 0, oneLess);
        beaten("a much greater score", 0, 0, 0xFF);
        best("a much greater score", 1, 0, 0xFF);
    }

    private static void beatenByNumber() {
        c.promise("or the same and a lower number");
        best("the same, the lower number", 0, 1, 1);
        beaten("the same, the higher number", 1, 1, 1);
        best("the same by other words, the lower number", 0, 1, 2);
        beaten("the same by other words, the higher number", 1, 1, 2);
        best("the only claim does not beat itself", 0, 0);
        beaten("the last of three alike", 2, 1, 1, 1);
        beaten("the second of three alike", 1, 1, 1, 1);
        best("the first of three alike", 0, 1, 1, 1);
    }

    private static void notBeatenByWhatIsNotOpen() {
        c.promise("another OPEN claim");
        Lostroom room = kept(0xFF, 1, 1);
        room.withdraw(0);
        c.is("a CLOSED one beats none", 5, room.release(0, 1));
        Lostroom served = kept(0xFF, 1);
        served.find(0, 0, 2, 0xFF, 0x700, 0, 0);
        c.is("the better claim is SERVED by another find", 5, served.release(1, 0));
        c.is("a SERVED one beats none", 5, served.release(0, 1));
        Lostroom erased = kept(0xFF, 1);
        erased.withdraw(0);
        erased.pass(90);
        c.is("an ERASED one beats none", 5, erased.release(0, 1));
        Lostroom paid = sold(0xFF, 1);
        paid.withdraw(0);
        c.is("a CLOSED one beats none, when it is paid out", 35, paid.payOut(0, 1));
    }

    private static void notBeatenWithoutProof() {
        c.promise("another OPEN claim proves it");
        Lostroom room = kept(1);
        room.claim(0, 0, 0, 0, 0xFF);
        c.is("a greater score without a proof", true, room.fit(0, 1) > room.fit(0, 0));
        room.tell(1, 0x100);
        c.is("beats none", 5, room.release(0, 0));
        Lostroom many = kept(1, 0xFF);
        many.tell(1, 3 << 20);
        c.is("a greater score with two other words", true, many.fit(0, 1) > many.fit(0, 0));
        c.is("beats none, too", 5, many.release(0, 0));
        Lostroom one = kept(1, 0xFF);
        one.tell(1, 1 << 20);
        c.is("with one other word it has it", 5, one.release(0, 1));
    }

    private static void beatenByOneOfTwenty() {
        c.promise("each other claim counts");
        for (int best = 0; best < 20; best++) {
            int[] words = new int[20];
            words[best] = 1;
            for (int i = 0; i < 20; i++) {
                if (i != best && i % 9 == 1) beaten("by " + best, i, words);
            }
            best("the number " + best, best, words);
        }
    }

    private static Lostroom withThreshold(boolean isSold, int threshold) {
        Lostroom room = withClaims(isSold, 1, 3);
        room.threshold(threshold);
        return room;
    }

    private static void beatenWithoutThreshold() {
        c.promise("promises 17 and 21: refused if it is no candidate of the claim");
        int best = kept(1, 3).fit(0, 1);
        c.is("release at the threshold", 5, withThreshold(false, best).release(0, 1));
        c.state("release below the threshold", () -> withThreshold(false, best + 1), r -> r.release(0, 1));
        c.state("beaten and below the threshold", () -> withThreshold(false, best), r -> r.release(0, 0));
        c.is("payOut at the threshold", 35, withThreshold(true, best).payOut(0, 1));
        c.state("payOut below the threshold", () -> withThreshold(true, best + 1), r -> r.payOut(0, 1));
        c.promise("NONE is less than 0");
        Lostroom room = new Lostroom();
        room.threshold(1);
        room.find(0, 0, 0, 0, 0, 0, 0);
        room.claim(1, 0, 0, 0, 0);
        room.claim(0, 1, 0, 0, (1 << 24) - 1);
        c.is("another kind proves it", true, room.isProven(0, 0));
        c.is("its score", Lostroom.NONE, room.fit(0, 0));
        c.is("it beats none", 5, room.release(0, 1));
        Lostroom alike = new Lostroom();
        alike.threshold(36);
        alike.alike(0, 1);
        alike.find(0, 0, 0, 0, 0, 0, 0);
        alike.claim(1, 0, 0, 0, 0);
        alike.claim(0, 1, 0, 0, (1 << 24) - 1);
        c.is("an alike kind has a greater score", 55, alike.fit(0, 0));
        c.is("than the same kind", 36, alike.fit(0, 1));
        c.is("it has it", 5, alike.release(0, 0));
    }

    private static void eachForItself() {
        c.promise("beaten for a find");
        Lostroom room = new Lostroom();
        room.find(0, 0, 0, 1, 0, 0, 0);
        room.find(0, 0, 0, 2, 0, 0, 0);
        room.claim(0, 0, 0, 0, 1);
        room.claim(0, 0, 0, 0, 2);
        c.is("the second has the one", 5, room.release(1, 1));
        c.is("the first has the other", 5, room.release(0, 0));
    }
}
