/** Promise 6: like. What a PATTERN is stands in PatternTest. */
public final class LikeTest {
    private static final String[] WORDS = {
        "river", "rivers", "rover", "over", "cover", "clover", "lover", "love", "glove",
    };

    public static void main(String[] args) {
        Check check = new Check();
        taken(check);
        empty(check);
        found(check);
        firstFifty(check);
        distances(check);
        howMany(check);
        check.end();
    }

    private static void taken(Check check) {
        check.sentence("Takes INPUT, a PATTERN");
        NearWords x = Typist.with(WORDS);
        Typist.like(x, "*");
        check.due("INPUT is taken", 0, x.count(0));
        Typist.like(x, "none");
        check.due("INPUT is taken when none is found", 0, x.count(0));
        check.due("WORDS stay", 9, x.count(1));
    }

    private static void empty(Check check) {
        check.sentence("(an empty one, too)");
        NearWords x = Typist.with(WORDS);
        Typist.like(x, "*");
        check.due("no WORD is empty", 0, x.like());
        check.due("RESULT is empty then", 0, x.count(3));
        check.due("a new object", 0, new NearWords().like());
        x.type(0L, 0L);
        check.due("zeros make an empty one", 0, x.like());
    }

    private static void found(Check check) {
        check.sentence("RESULT are the [..] WORDS that are as it says, in order");
        NearWords x = Typist.with(WORDS);
        matched(check, x, "*over", 5, "clover/0 cover/0 lover/0 over/0 rover/0");
        matched(check, x, "?over", 3, "cover/0 lover/0 rover/0");
        matched(check, x, "over", 1, "over/0");
        matched(check, x, "ove", 0, "");
        matched(check, x, "overs", 0, "");
        matched(check, x, "r*", 3, "river/0 rivers/0 rover/0");
        matched(check, x, "*s", 1, "rivers/0");
        matched(check, x, "*o*e", 2, "glove/0 love/0");
        matched(check, x, "?????", 5, "cover/0 glove/0 lover/0 river/0 rover/0");
        matched(check, x, "?????*?", 2, "clover/0 rivers/0");
        matched(check, x, "r?ver*", 3, "river/0 rivers/0 rover/0");
        matched(check, x, "*", 9, "clover/0 cover/0 glove/0 love/0 lover/0 over/0 river/0 rivers/0 rover/0");
        matched(check, x, "x", 0, "");
    }

    /** w!, w", .. up to as many as asked for, the last ones first. */
    private static NearWords withMany(int many) {
        NearWords x = new NearWords();
        for (int i = many - 1; i >= 0; i--) {
            Typist.add(x, "w" + (char) ('!' + i));
        }
        return x;
    }

    private static void firstFifty(Check check) {
        check.sentence("the first 50 WORDS");
        for (int many = 48; many <= 94; many++) {
            NearWords x = withMany(many);
            int kept = Math.min(50, many);
            Typist.like(x, "w?");
            check.due(many + " in RESULT", kept, x.count(3));
            check.due("the first of " + many, '!', x.letter(0, 1));
            check.due("the last of " + many, '!' + kept - 1, x.letter(kept - 1, 1));
            check.bad("one more of " + many, () -> x.letter(kept, 0));
        }
        NearWords x = withMany(60);
        Typist.add(x, "zz");
        check.due("one behind 50 others that are not as it says", 1, Typist.like(x, "z*"));
        check.due("it is in RESULT", "zz/0", Typist.result(x));
    }

    private static void distances(Check check) {
        check.sentence("with DISTANCE 0");
        NearWords x = withMany(94);
        check.due("near before", 50, Typist.near(x, "w~", 1));
        check.due("its DISTANCE before", 1, x.distance(0));
        Typist.like(x, "w*");
        for (int i = 0; i < 50; i++) {
            check.due("DISTANCE " + i, 0, x.distance(i));
        }
    }

    private static void howMany(Check check) {
        check.sentence("Answers how many there are, also beyond RESULT.");
        for (int many = 0; many <= 94; many++) {
            check.due("of " + many, many, Typist.like(withMany(many), "*"));
        }
        check.due("of 1000", 1000, Typist.like(Typist.withThousandWords(), "*"));
        check.due("of 1000, some", 271, Typist.like(Typist.withThousandWords(), "*7*"));
        check.due("none", 0, Typist.like(withMany(60), "x*"));
    }

    private static void matched(Check check, NearWords x, String pattern, int want, String result) {
        check.due("like " + pattern, want, Typist.like(x, pattern));
        check.due("RESULT of " + pattern, result, Typist.result(x));
    }
}
