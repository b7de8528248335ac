/** Promises 1 to 38: the document's sentences one by one, with the edges that they name. */
public final class EdgesTest {
    public static void main(String[] args) {
        Sentences doc = new Sentences();
        new EdgesOfPost(doc).all();
        new EdgesOfTape(doc).all();
        new EdgesOfTexts(doc).all();
        new EdgesOfOrders(doc).all();
        new EdgesOfLaws(doc).all();
        new EdgesOfHanding(doc).all();
        new EdgesOfPaper(doc).all();
        new EdgesOfRoads(doc).all();
        new EdgesOfSeasons(doc).all();
        new EdgesOfImages(doc).all();
        new EdgesOfRefusals(doc).all();
        new EdgesOfStory(doc).all();
        doc.close("EdgesTest");
    }
}
