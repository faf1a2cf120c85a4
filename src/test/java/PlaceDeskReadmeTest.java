import java.io.IOException;
import java.nio.file.Files;
import java.nio.file.Path;
import java.util.ArrayList;
import java.util.List;

/** The README's example stands below line by line; each line answers what its comment says. */
public final class PlaceDeskReadmeTest {
    private static final Path README = Path.of("README.md");
    private static final Path THIS = Path.of("src/test/java/PlaceDeskReadmeTest.java");

    public static void main(String[] args) throws IOException {
        example();
        theReadmeHasTheSameLines();
        Check.end();
    }

    private static void example() {
        // EXAMPLE
        PlaceDesk desk = new PlaceDesk();
        int bytes = desk.row(2, 8);                        // 0: a row of 8 elements of kind B
        boolean came = desk.put(5) && desk.put(7);         // true: the kinds of the next instance, one by one
        int pair = desk.instance();                        // 1: an instance with an I and an O
        int size = desk.object(pair, -2);                  // 2: how many elements it has
        int link = desk.place(pair, 1);                    // 0: its element of kind O
        int view = desk.view(bytes, 0, 5, true);           // 1: four bytes as one I, the first one lowest
        int kind = desk.kindOf(view);                      // 5: I
        int mark = desk.mark();                            // 0
        long set = desk.act(view, 1, -2, 0);               // 0: SET -2
        long had = desk.act(view, 4, 3, 0);                // -2: ADD 3 answers what it had; it has 1 then
        long tried = desk.act(link, 3, -1, bytes);         // 1: TRY had NULL, and has object 0 then
        boolean copied = desk.copy(bytes, 0, bytes, 4, 4); // true: the first four bytes come to the last four
        boolean common = desk.meet(link, view);            // false: they have no elements in common
        int changed = desk.changed(mark);                  // 3: two bytes and the O
        int others = desk.back(mark);                      // 3: all elements are as they were at the mark
        int refused = desk.place(pair, 2);                 // PlaceDesk.NONE: there is no such element
        // END
        Check.due("bytes", bytes, 0);
        Check.yes("came", came);
        Check.due("pair", pair, 1);
        Check.due("size", size, 2);
        Check.due("link", link, 0);
        Check.due("view", view, 1);
        Check.due("kind", kind, 5);
        Check.due("mark", mark, 0);
        Check.due("set", set, 0);
        Check.due("had", had, -2);
        Check.due("tried", tried, 1);
        Check.yes("copied", copied);
        Check.no("common", common);
        Check.due("changed", changed, 3);
        Check.due("others", others, 3);
        Check.due("refused", refused, PlaceDesk.NONE);
    }

    private static void theReadmeHasTheSameLines() throws IOException {
        List<String> told = between(Files.readAllLines(README), "```java", "```");
        List<String> run = between(Files.readAllLines(THIS), "// EXAMPLE", "// END");
        Check.yes("the README has an example", !told.isEmpty());
        Check.due("lines of the README's example", told.size(), run.size());
        for (int i = 0; i < Math.min(told.size(), run.size()); i++) {
            Check.yes("the README tells: " + run.get(i), run.get(i).equals(told.get(i)));
        }
    }

    /** The lines behind the first that is begin and ahead of the next that is end, without their indent. */
    private static List<String> between(List<String> lines, String begin, String end) {
        List<String> found = new ArrayList<>();
        boolean within = false;
        for (String line : lines) {
            String text = line.strip();
            if (within && text.equals(end)) {
                return found;
            }
            if (within) {
                found.add(text);
            }
            within = within || text.equals(begin);
        }
        return found;
    }
}
