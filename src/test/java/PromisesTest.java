import java.io.IOException;
import java.nio.file.Files;
import java.nio.file.Path;

/** Each promise of the document is named by a check of the tests at its bounds. */
public final class PromisesTest {
    private static final Check check = new Check("PromisesTest");
    private static final String[] BOUNDS = {"Text", "Told", "Votes", "Forms"};
    private static final int PROMISES = 23;

    public static void main(String[] args) throws IOException {
        StringBuilder all = new StringBuilder();
        for (String name : BOUNDS) {
            all.append(Files.readString(Path.of("src/test/java/Bounds" + name + "Test.java")));
        }
        for (int promise = 1; promise <= PROMISES; promise++) {
            check.due("promise " + promise + " is named", true, all.indexOf("\"promise " + promise + ": ") >= 0);
        }
        check.end();
    }
}
