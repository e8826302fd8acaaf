import java.io.IOException;
import java.lang.reflect.Method;
import java.lang.reflect.Modifier;
import java.nio.file.Files;
import java.nio.file.Path;

/** README.md tells how to use the class: its example does what it says, and no call is missing in it. */
public final class ReadmeTest {
    private static final Due DUE = new Due("ReadmeTest");

    public static void main(String[] args) throws IOException {
        String readme = Files.readString(Path.of("README.md"));
        everyCallIsNamed(readme);
        theTestsAreNamed(readme);
        example(Due.text(""));
        example(Due.text("abcabcabcabcXabcabcYYYYYYYYYYYYabcXabc"));
        example(Due.wild(400));
        brokenExample();
        DUE.finish();
    }

    private static void everyCallIsNamed(String readme) {
        for (Method method : LzmaChains.class.getDeclaredMethods()) {
            if (Modifier.isPublic(method.getModifiers())) {
                String call = "`" + method.getName() + "(";
                DUE.same("README names " + call, String.valueOf(readme.contains(call)), "true");
            }
        }
    }

    private static void theTestsAreNamed(String readme) throws IOException {
        DUE.same("README names .ci/run", String.valueOf(readme.contains(".ci/run")), "true");
        try (var files = Files.newDirectoryStream(Path.of("src/test/java"), "*Test.java")) {
            for (Path file : files) {
                String name = file.getFileName().toString().replace(".java", "");
                DUE.same("README names " + name, String.valueOf(readme.contains("`" + name + "`")), "true");
            }
        }
    }

    private static LzmaChains packed(byte[] bytes) {
        LzmaChains x = new LzmaChains(2);
        DUE.same("property(6, 10)", x.property(6, 10), 1);
        DUE.same("filter(0, 4)", x.filter(0, 4), 1);
        for (int b : bytes) {
            x.octet(b);
        }
        int packed = x.pack(2);
        DUE.same("count(1) behind pack(2)", x.count(1), packed);
        DUE.same("pass()", x.pass(), packed);
        return x;
    }

    private static void example(byte[] bytes) {
        LzmaChains x = packed(bytes);
        DUE.same("open(4096)", x.open(4096), bytes.length);
        DUE.same("what was opened", Due.brief(x), Due.brief(bytes));
        DUE.same("rule()", x.rule(), 0);
    }

    private static void brokenExample() {
        LzmaChains x = packed(Due.text("abc"));
        int all = x.octet(0) - 1;
        int opened = x.open(4096);
        DUE.same("the place of a byte behind the end", -10 - opened, all);
        DUE.same("its RULE", x.rule(), 12);
    }
}
