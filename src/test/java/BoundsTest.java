import java.io.IOException;

/** Each sentence of the Terms and promises that names a bound has a test of its own here. */
public final class BoundsTest {
    public static void main(String[] args) throws IOException {
        Due due = new Due("BoundsTest");
        Sentences doc = new Sentences(due);
        BoundsOfTelling.all(doc);
        BoundsOfLight.all(doc);
        BoundsOfAims.all(doc);
        BoundsOfTheDay.all(doc);
        BoundsOfShots.all(doc);
        doc.nothingIsLeft();
        due.about("past the 512th call");
        pastTheLastCall(due);
        due.end();
    }

    /** What is answered there is free, but LANGUAGE.md lets no call throw or fail to end. */
    private static void pastTheLastCall(Due due) {
        MirrorTower x = Fields.plant(40, Fields.ALL_HOURS);
        for (int i = 0; i < 2000; i++) {
            x.step(true);
            x.plan();
            x.shot(-1, 255, i % 41);
        }
        due.is("an hour is told", x.count(1) >= 0 && x.count(1) <= 23, true);
    }
}
