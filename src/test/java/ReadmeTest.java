import java.io.IOException;
import java.lang.reflect.Method;
import java.nio.file.Files;
import java.nio.file.Path;
import java.util.regex.Matcher;
import java.util.regex.Pattern;

/** Makes the calls of README.md's example: each must answer what stands behind it. */
final class ReadmeTest {
    private static final Pattern NEW = Pattern.compile("PaymentHub hub = new PaymentHub\\((\\d+), (\\d+)\\);.*");
    private static final Pattern SAY = Pattern.compile("say\\(hub, \"(.*)\"\\); *// (\\w+).*");
    private static final Pattern CALL = Pattern.compile("hub\\.(\\w+)\\(([^)]*)\\); *// (-?\\w+).*");

    static void run(Check check) throws IOException, ReflectiveOperationException {
        check.group("README.md");
        PaymentHub hub = new PaymentHub(0, 0);
        int calls = 0;
        for (String line : Files.readString(Path.of("README.md")).split("\n")) {
            Matcher fresh = NEW.matcher(line);
            Matcher said = SAY.matcher(line);
            Matcher call = CALL.matcher(line);
            if (fresh.matches()) {
                hub = new PaymentHub(Integer.parseInt(fresh.group(1)), Integer.parseInt(fresh.group(2)));
            } else if (said.matches()) {
                check.due(line, String.valueOf(Check.say(hub, said.group(1))), said.group(2));
                calls++;
            } else if (call.matches()) {
                check.due(line, answer(hub, call.group(1), call.group(2)), call.group(3));
                calls++;
            }
        }
        check.due("calls of the example", calls, 23);
    }

    private static String answer(PaymentHub hub, String name, String arguments) throws ReflectiveOperationException {
        String[] parts = arguments.isEmpty() ? new String[0] : arguments.split(", ");
        Class<?>[] types = new Class<?>[parts.length];
        Object[] numbers = new Object[parts.length];
        for (int i = 0; i < parts.length; i++) {
            types[i] = int.class;
            numbers[i] = Integer.valueOf(parts[i]);
        }
        Method method = PaymentHub.class.getMethod(name, types);
        String answer = String.valueOf(method.invoke(hub, numbers));
        return answer.equals("-9") ? "DOWN" : answer.equals("-1") ? "NONE" : answer;
    }
}
