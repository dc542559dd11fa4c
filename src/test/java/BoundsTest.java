/** Each sentence of the document that names a boundary case, with a test of its own. */
public final class BoundsTest {
    public static void main(String[] args) {
        BoundsOfTerms.run();
        BoundsOfHour.run();
        BoundsOfRefusals.run();
        BoundsOfTexts.run();
        BoundsOfLooks.run();
        BoundsOfActs.run();
        BoundsOfDays.run();
        BoundsOfLater.run();
        BoundsOfStorms.run();
        BoundsOfChance.run();
        BoundsOfKept.run();
        Sentences.close("BoundsTest");
    }
}
