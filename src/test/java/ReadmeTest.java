import java.io.IOException;
import java.lang.reflect.Method;
import java.lang.reflect.Modifier;
import java.nio.file.Files;
import java.nio.file.Path;

/** README.md: its example answers what its comments say, and it tells every call and every test. */
public final class ReadmeTest {
    private final Check check = new Check();

    public static void main(String[] args) throws IOException {
        ReadmeTest test = new ReadmeTest();
        test.example();
        String readme = Files.readString(Path.of("README.md"));
        test.exampleIsThatOfReadme(readme);
        test.everyCallIsTold(readme);
        test.everyTestIsTold(readme);
        test.check.end();
    }

    private void example() {
        MappedProcessor p = new MappedProcessor();
        p.write(0, 14 << 26 | 3 << 21 | 5);               // word 0, at the address 0: r3 = 0 + 5
        p.write(1, 17 << 26);                             // at 4: exception 3072
        p.write(768, 14 << 26 | 4 << 21 | 3 << 16 | 2);   // at 3072, which answers it: r4 = r3 + 2
        p.write(769, 19 << 26 | 50 << 1);                 // at 3076: back to where the exception came from
        int exceptions = p.step(4);                       // 1 of the four steps ended in an exception
        int sum = p.general(4);                           // 7
        int vector = p.vector();                          // 3072
        int pc = p.special(0);                            // 8, the address of the next instruction

        p.set(24, 0x20000000 | 2);                        // data block 0, upper half: 8 KB from 0x20000000 on
        p.set(25, 0x4000 | 2);                            // its lower half: to 0x4000, for LOAD and STORE
        p.set(1, 1 << 4);                                 // MSR: DR, so that data addresses are translated
        int where = p.translate(0x20000010, 1);           // 0x4010
        int nowhere = p.translate(0x30000010, 1);         // -1, NOT FOUND

        boolean written = p.write(16384, 1);              // false: there is no word 16384
        int made = p.step(51);                            // MappedProcessor.NONE: at most 50 steps a call

        check.due("exceptions", exceptions, 1);
        check.due("sum", sum, 7);
        check.due("vector", vector, 3072);
        check.due("pc", pc, 8);
        check.due("where", where, 0x4010);
        check.due("nowhere", nowhere, -1);
        check.due("last address of the block", p.translate(0x20001FFF, 2), 0x5FFF);
        check.due("written", written, false);
        check.due("made", made, MappedProcessor.NONE);
        check.due("steps", p.steps(), 4);
    }

    private void exampleIsThatOfReadme(String readme) throws IOException {
        String own = Files.readString(Path.of("src/test/java/ReadmeTest.java"));
        int from = readme.indexOf("```java\n");
        int to = readme.indexOf("```\n", from + 1);
        check.due("an example", from >= 0 && to > from, true);
        for (String line : readme.substring(from, to).split("\n")) {
            if (!line.startsWith("```")) {
                check.due("line of the example: " + line, own.contains(line), true);
            }
        }
    }

    private void everyCallIsTold(String readme) {
        for (Method m : MappedProcessor.class.getDeclaredMethods()) {
            if (Modifier.isPublic(m.getModifiers())) {
                check.due("call " + m.getName(), readme.contains("| `" + m.getName() + "("), true);
            }
        }
    }

    private void everyTestIsTold(String readme) throws IOException {
        try (var files = Files.list(Path.of("src/test/java"))) {
            for (Path file : (Iterable<Path>) files::iterator) {
                String name = file.getFileName().toString().replace(".java", "");
                check.due("test " + name, readme.contains("`" + name + "`"), true);
            }
        }
    }
}
