import java.io.IOException;
import java.lang.reflect.Method;
import java.lang.reflect.Modifier;
import java.nio.file.Files;
import java.nio.file.Path;
import java.util.List;

/** The calls that README.md shows, with the answers that it tells. */
public final class ReadmeTest {
    public static void main(String[] args) throws IOException {
        Check check = new Check();
        answers(check);
        namesEveryCall(check);
        check.end();
    }

    private static void answers(Check check) {
        PieceShelf shelf = new PieceShelf();
        check.due("thing(0, 100, 7)", shelf.thing(0, 100, 7), true);
        check.due("got(0, 0, 9, 7)", shelf.got(0, 0, 9, 7), 10);
        check.due("type bytes=0-", shelf.type(0x62797465733D302DL, 8), true);
        check.due("type 49", shelf.type(0x3439L, 2), true);
        check.due("answer(0)", shelf.answer(0), 1);
        check.due("told(0)", shelf.told(0), 1);
        check.due("row(0, false)", shelf.row(0, false), 0);
        check.due("row(0, true)", shelf.row(0, true), 49);
        check.due("told(2)", shelf.told(2), 10);
        check.due("told(3)", shelf.told(3), 1);
        int first = shelf.fetch(0, false);
        int last = shelf.fetch(0, true);
        check.due("fetch(0, false)", first, 10);
        check.due("fetch(0, true)", last, 49);
        check.due("told(4)", shelf.told(4), 140);
        check.due("got(0, first, last, 7)", shelf.got(0, first, last, 7), 40);
        check.due("set(0, 30)", shelf.set(0, 30), true);
        check.due("about(0, 1)", shelf.about(0, 1), 30);
        check.spans("the places that stay", shelf, 0, 0, 29);
    }

    /** Each call of the face has its line in the table. */
    private static void namesEveryCall(Check check) throws IOException {
        List<String> lines = Files.readAllLines(Path.of("README.md"));
        for (Method m : PieceShelf.class.getDeclaredMethods()) {
            if (Modifier.isPublic(m.getModifiers())) {
                boolean told = lines.stream().anyMatch(line -> line.startsWith("| `" + m.getName() + "("));
                check.due("README.md tells of " + m.getName(), told, true);
            }
        }
    }
}
