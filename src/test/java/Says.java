import java.lang.annotation.Retention;
import java.lang.annotation.RetentionPolicy;

/** The words of the document that a test holds the program to; " .. " stands for words left out. */
@Retention(RetentionPolicy.RUNTIME)
@interface Says {
    String value();
}
